/** For each promise of the document answers worked out by hand: ordinary ones, the edges it names, wrong inputs. */
public final class PromiseTest {
    private static final int NONE = FogWatch.NONE;
    private static final long MISSING = Probe.MISSING;
    private static final long ILLEGAL = Probe.ILLEGAL;

    // a ring of four by whistle 0; whistle 1 brings 3 to 0
    private static final String RING = "corner 1;corner 2;corner 1;corner 3;way 0 0 1;way 0 1 2;way 0 2 3;"
        + "way 0 3 0;way 1 3 0;man 0;man 2;man 2;";

    private final Probe probe = new Probe();

    public static void main(String[] args) {
        PromiseTest test = new PromiseTest();
        test.texts();
        test.faultsOfNumbersAndWords();
        test.faultsOfTooMany();
        test.towns();
        test.laws();
        test.works();
        test.loopsAndTheirEnd();
        test.songsAndBooks();
        test.undone();
        test.toldOfTown();
        test.toldOfCornersAndMen();
        test.costs();
        test.nightsAhead();
        test.gathering();
        test.cheapRows();
        test.telling();
        test.countingRows();
        test.rings();
        test.listening();
        test.chances();
        test.turns();
        test.reaching();
        test.watches();
        test.spans();
        test.images();
        test.refusals();
        test.probe.close("PromiseTest");
    }

    private void due(String what, long want, Probe.Call call) {
        probe.due(what, want, call);
    }

    /** The answer of a text that is read and the place of its fault. */
    private void dueTown(String text, int want, int place) {
        FogWatch x = new FogWatch();
        due("town " + text, want, () -> Probe.town(x, text));
        due("fault of town " + text, place, x::fault);
        due("tape behind town " + text, 0, () -> x.count(1));
    }

    private void dueLaw(String text, int want, int place) {
        FogWatch x = Probe.in(RING);
        due("law " + text, want, () -> Probe.law(x, text));
        due("fault of law " + text, place, x::fault);
    }

    private void dueWork(String text, int want, int place) {
        FogWatch x = Probe.in(RING);
        due("work " + text, want, () -> Probe.work(x, text));
        due("fault of work " + text, place, x::fault);
    }

    private void dueSong(String text, int want, int place) {
        FogWatch x = Probe.in(RING);
        due("song " + text, want, () -> Probe.song(x, text));
        due("fault of song " + text, place, x::fault);
    }

    private void dueBook(String text, int want, int place) {
        FogWatch x = Probe.in(RING);
        due("book " + text, want, () -> Probe.book(x, text));
        due("fault of book " + text, place, x::fault);
    }

    private static String times(String text, int many) {
        StringBuilder all = new StringBuilder();
        for (int i = 0; i < many; i++) {
            all.append(text);
        }
        return all.toString();
    }

    // ---- promises 1 to 9

    private void texts() {
        FogWatch x = new FogWatch();
        due("corners of a new object", 0, () -> x.told(0));
        due("breath of a new object", 60, () -> x.told(2));
        due("fault of a new object", NONE, x::fault);
        due("a text longer than the tape", ILLEGAL, () -> x.town(1));
        for (int i = 1; i <= 30; i++) {
            int bytes = 20 * i;
            due("feed " + i, bytes, () -> x.feed(0x63000000, 0, 0, 0, 0));
        }
        due("feed beyond 600", NONE, () -> x.feed(1, 2, 3, 4, 5));
        due("the tape stays", 600, () -> x.count(1));
        due("town below 0", ILLEGAL, () -> x.town(-1));
        due("town beyond the tape", ILLEGAL, () -> x.town(601));
        due("law of 151", ILLEGAL, () -> x.law(151));
        due("work of 151", ILLEGAL, () -> x.work(151));
        due("song of 61", ILLEGAL, () -> x.song(61));
        due("book of 61", ILLEGAL, () -> x.book(61));
        due("fault behind refusals", NONE, x::fault);
        due("the tape stays behind refusals", 600, () -> x.count(1));
        due("status 1", 7, () -> x.status(1));
        due("song of 60", -9, () -> x.song(60));
        due("the tape is empty", 0, () -> x.count(1));
        due("its fault", 0, x::fault);
        // the highest byte comes first: "corn" "er 7" ";..." with bytes of the sign bit behind
        due("feed", 20, () -> x.feed(0x636f726e, 0x65722037, 0x3b808182, -1, -1));
        due("town of bytes", 1, () -> x.town(9));
        due("its bell", 7, () -> x.corner(0, 0));
        due("a byte above 127", -9, () -> {
            x.feed(0x636f726e, 0x65722037, 0x3be90000, 0, 0);
            return x.town(10);
        });
        due("its place", 9, x::fault);
    }

    private void faultsOfNumbersAndWords() {
        dueTown("corner 3 ; man 0 ;  ", 1, NONE);
        dueTown("corner3;way0 0 0;breath0;", 1, NONE);
        dueTown("corner 0009;", 1, NONE);
        dueTown("corner 99999999999999999999;", -8, 7);
        dueTown("corner 4294967296;", -8, 7);
        dueTown("Corner 1;", -9, 0);
        dueTown("corner x;", -9, 7);
        dueTown("cornera 1;", -9, 0);
        dueTown("cornerz 1;", -9, 0);
        dueTown("corner{1;", -9, 6);
        dueTown("corner 1:", -9, 8);
        dueTown("corner /;", -9, 7);
        dueTown("corner -1;", -9, 7);
        dueTown("corner 1", -9, 8);
        dueTown("corner 1  ", -9, 10);
        dueTown("corner 1 man 0;", -9, 9);
        dueTown("corner 1;;", -9, 9);
        dueTown("corner\t1;", -9, 6);
        dueTown("  bell 1;", -9, 2);
        dueTown("corner 1;way 0 0;", -9, 16);
        dueTown("corner 1;way 000;", -9, 16);
        dueTown("breath 200;", 0, NONE);
        dueTown("breath 201;", -8, 7);
        dueTown("   ", 0, NONE);
        dueLaw("", -9, 0);
        dueLaw("  ", -9, 2);
        dueLaw("999", 1, NONE);
        dueLaw("1000", -8, 0);
        dueLaw("1 + 1000x", -8, 4);
        dueLaw("1 2", -9, 2);
        dueLaw("-1", -9, 0);
        dueLaw("(1", -9, 2);
        dueLaw("(1]", -9, 2);
        dueLaw("1)", -9, 1);
        dueLaw("least[1,2", -9, 9);
        dueLaw("least[1]", -9, 7);
        dueLaw("least(1,2)", -9, 5);
        dueLaw("most [ 1 , 2 ] ", 1, NONE);
        dueLaw("3men", -9, 1);
        dueLaw("menfog", -9, 0);
        dueLaw("1;", -9, 1);
        dueWork("blow 0", -9, 6);
        dueWork("blow;", -9, 4);
        dueWork("night 1;", -9, 6);
        dueWork("again 2[night;]", -9, 15);
        dueWork("again 2[night];", -9, 13);
        dueWork("again 2[night;", -9, 14);
        dueWork("again 2 night;", -9, 8);
        dueWork("];", -9, 0);
        dueWork("rest 60;night;blow x;", -9, 19);
        dueWork(" again 0 [ ] ; ", 0, NONE);
        dueWork("rest 0;", -8, 5);
        dueWork("rest 61;", -8, 5);
        dueWork("again 41[];", -8, 6);
        dueWork("walk 3 0;", -8, 5);
        dueWork("walk 2 4;", -8, 7);
        dueWork("fog 4;", -8, 4);
        dueWork("blow 4;", -8, 5);
    }

    private void faultsOfTooMany() {
        dueTown(times("corner 0;", 10), 10, NONE);
        dueTown(times("corner 0;", 10) + "corner 99;", -7, 90);
        dueTown(times("corner 0;", 10) + "cornet 99;", -9, 90);
        dueTown("corner 0;" + times("man 0;", 5), 1, NONE);
        dueTown("corner 0;" + times("man 0;", 5) + " man 7;", -7, 40);
        dueTown(times("breath 1;", 60), 0, NONE);
        dueTown(times("breath 1;", 60) + " breath x", -7, 541);
        dueTown(times("breath 1;", 60) + "way", -7, 540);
        dueTown(times("breath 1;", 60) + "ways", -9, 540);
        dueTown(times("breath 1;", 60) + "1", -9, 540);
        dueLaw("((((((1))))))", 1, NONE);
        dueLaw("(((((((1)))))))", -7, 6);
        dueLaw("((((((1))))))+((((((1))))))", 1, NONE);
        dueLaw("((((((1(", -9, 7);
        dueLaw("(((least[((most 5", -7, 11);
        dueLaw("least[1,(((((2)))))]", 1, NONE);
        dueLaw("least[(((((1))))),((((((2))))))]", -7, 23);
        String six = times("again 1[", 6);
        dueWork(six + "night;" + times("];", 6), 1, NONE);
        dueWork(six + "again 99[", -7, 48);
        dueWork(six + "agains", -9, 48);
        dueSong(times("3;", 20), 20, NONE);
        dueSong(times("3;", 20) + "3", -7, 40);
        dueSong(times("3;", 20) + "4", -8, 40);
        dueSong(times("3;", 20) + ";", -9, 40);
        dueSong(times("0;", 20) + "  00 ", -7, 42);
        dueBook(times("9;", 20), 20, NONE);
        dueBook(times("9;", 20) + "9;", -7, 40);
        dueBook(times("9;", 20) + "10;", -8, 40);
    }

    private void towns() {
        FogWatch x = Probe.in("corner 4;corner 5;way 2 0 1;way 2 0 0;way 2 0 1;man 1;breath 9;breath 7;");
        due("the last way counts", 1, () -> x.way(0, 2));
        due("without a way", 0, () -> x.way(0, 1));
        due("the last breath counts", 7, () -> x.told(2));
        Probe.law(x, "5");
        Probe.song(x, "1;2;");
        Probe.book(x, "1;");
        Probe.work(x, "blow 0;fog 1;night;again 2[blow 0;];");
        x.image();
        due("a town with a fault", -8, () -> Probe.town(x, "corner 1;corner 10;"));
        due("its place", 16, x::fault);
        due("corners stay", 2, () -> x.told(0));
        due("the law stays", 5, () -> x.cost(0));
        due("the song stays", 2, () -> x.told(8));
        due("the book stays", 1, () -> x.told(9));
        due("the night stays", 1, () -> x.told(3));
        due("refused ones stay", 2, () -> x.told(10));
        due("images stay", 1, () -> x.count(0));
        due("works stay", 1, () -> x.count(2));
        due("a new town", 1, () -> Probe.town(x, "corner 0;"));
        due("no fault any more", NONE, x::fault);
        due("no law", 1, () -> x.cost(0));
        due("no song", 0, () -> x.told(8));
        due("no book", 0, () -> x.told(9));
        due("no images", 0, () -> x.count(0));
        due("nothing to undo", -1, x::undo);
        due("no refused ones", 0, () -> x.told(10));
        due("breath anew", 60, () -> x.told(2));
        due("no night", 0, () -> x.told(3));
        due("no fog", 0, () -> x.told(4));
        due("nothing blown", 0, () -> x.told(5));
        due("none latest", NONE, () -> x.told(6));
        due("no men", 0, () -> x.told(1));
    }

    private void dueCost(String law, int want) {
        FogWatch x = new FogWatch();
        due("law " + law, 1, () -> Probe.law(x, law));
        due("cost by " + law, want, () -> x.would(3, 7, 5, 4, 2, 11, 13));
    }

    private void laws() {
        dueCost("whistle", 3);
        dueCost("blown", 7);
        dueCost("same", 5);
        dueCost("fog", 4);
        dueCost("men", 2);
        dueCost("night", 11);
        dueCost("breath", 13);
        dueCost("2+3*4", 14);
        dueCost("(2+3)*4", 20);
        dueCost("20-5-3", 12);
        dueCost("60/5/2", 6);
        dueCost("7-9", 0);
        dueCost("61", 60);
        dueCost("60", 60);
        dueCost("least[8,5]+most[1,3]", 8);
        dueCost("20+(0-7)/2", 17);
        dueCost("20+(0-7)%3", 19);
        dueCost("20+7%(0-3)", 21);
        dueCost("9+7/0", 9);
        dueCost("9+7%0", 9);
        dueCost("9 + 7 / (men - 2)", 9);
        // values wrap: 256^4 is 0, and 256^3 * 128 is the least number, which stays itself by / (0-1)
        dueCost("256*256*256*256+8", 8);
        dueCost("3-256*256*256*128/(0-1)", 0);
        dueCost("3+256*256*256*128/(0-1)/(256*256*256*128)", 4);
        dueCost("(256*256*256*128)%(0-1)+6", 6);
        FogWatch x = Probe.in(RING);
        Probe.law(x, "7");
        due("a law with a fault", -9, () -> Probe.law(x, "7+"));
        due("the old one stays", 7, () -> x.cost(2));
        due("another law", 1, () -> Probe.law(x, " 3 "));
        due("counts now", 3, () -> x.cost(2));
        due("would: whistle", ILLEGAL, () -> x.would(4, 0, 0, 0, 0, 0, 0));
        due("would: whistle", ILLEGAL, () -> x.would(-1, 0, 0, 0, 0, 0, 0));
        due("would: blown", ILLEGAL, () -> x.would(0, 1000, 0, 0, 0, 0, 0));
        due("would: same", ILLEGAL, () -> x.would(0, 0, 1000, 0, 0, 0, 0));
        due("would: fog", ILLEGAL, () -> x.would(0, 0, 0, 11, 0, 0, 0));
        due("would: men", ILLEGAL, () -> x.would(0, 0, 0, 0, 6, 0, 0));
        due("would: night", ILLEGAL, () -> x.would(0, 0, 0, 0, 0, 401, 0));
        due("would: breath", ILLEGAL, () -> x.would(0, 0, 0, 0, 0, 0, 201));
        due("would: breath", ILLEGAL, () -> x.would(0, 0, 0, 0, 0, 0, -1));
        due("would: all at their most", 3, () -> x.would(3, 999, 999, 10, 5, 400, 200));
    }

    private void works() {
        FogWatch x = Probe.in(RING + "breath 10;");
        // costs 1, 2, 3, 4 are 10; the fifth one is refused, and so is what costs anything
        due("blows", 5, () -> Probe.work(x, "again 5[blow 0;];blow 1;fog 3;"));
        due("refused", 2, () -> x.told(10));
        due("breath", 0, () -> x.told(2));
        due("latest", 0, () -> x.told(6));
        due("home again", 0, () -> x.man(0, 0));
        due("heard", 4, () -> x.man(0, 2));
        due("man 0 in no fog", 0, () -> x.man(0, 3));
        due("rest, fog off, again on", 3, () -> Probe.work(x, "rest 60;fog 3;fog 3;"));
        due("fog", 8, () -> x.told(4));
        due("same goes on over rests and fog", 5, () -> x.cost(0));
        // into fog: both men of 2 go to 3, hear its bell, and stay there then
        due("blown into fog", 2, () -> Probe.work(x, "blow 0;blow 0;"));
        due("where", 3, () -> x.man(1, 0));
        due("bell", 3, () -> x.man(1, 1));
        due("heard", 5, () -> x.man(1, 2));
        due("stayed", 1, () -> x.man(1, 3));
        due("the other went on", 2, () -> x.man(0, 0));
        due("walk to where he is, and away", 1, () -> Probe.work(x, "walk 1 3;walk 1 0;"));
        due("refused", 1, () -> x.told(10));
        due("he heard nothing", 5, () -> x.man(1, 2));
        due("nor another bell", 3, () -> x.man(1, 1));
        due("rests to 200", 3, () -> Probe.work(x, "again 9[rest 60;];"));
        due("refused at 200", 6, () -> x.told(10));
        due("breath", 200, () -> x.told(2));
        due("night", 1, () -> Probe.work(x, "night;"));
        due("fog goes round", 1, () -> x.told(4));
        due("none latest", NONE, () -> x.told(6));
        due("same is 0", 1, () -> x.cost(0));
        due("a fault: none is done", -9, () -> Probe.work(x, "night;night;nigth;"));
        due("the night", 1, () -> x.told(3));
        due("refused by the latest work", 0, () -> x.told(10));
        FogWatch y = new FogWatch();
        due("work in no town", 3, () -> Probe.work(y, "blow 3;night;rest 1;"));
        due("blown", 1, () -> y.told(5));
        due("fog in no town", -8, () -> Probe.work(y, "fog 0;"));
        due("walk in no town", -8, () -> Probe.work(y, "walk 0 0;"));
    }

    private void loopsAndTheirEnd() {
        FogWatch x = Probe.in("corner 0;corner 0;corner 0;");
        // 1 again, 40 agains within, 4 nights in each of the first ones: 1 + 39 * 5 = 196, 1 again, 3 nights
        due("200 steps are begun", 159, () -> Probe.work(x, "again 40[again 4[night;];];rest 1;"));
        due("the night", 159, () -> x.told(3));
        due("nothing was refused", 0, () -> x.told(10));
        due("199 empty agains", 1, () -> Probe.work(x, "again 3[again 40[again 0[];];again 24[again 0[];];];night;"));
        due("200 empty agains", 0, () -> Probe.work(x, "again 1[];again 3[again 40[again 0[];];again 24[again 0[];];];night;"));
        due("refused ones count", 0, () -> Probe.work(x, "again 0[blow 0;];"));
        due("199 nights", 199, () -> Probe.work(x, "again 40[night;night;night;night;night;];"));
        due("the night", 359, () -> x.told(3));
        due("to the last night", 41, () -> Probe.work(x, "again 40[night;night;];"));
        due("refused from 400 on", 39, () -> x.told(10));
        due("the night", 400, () -> x.told(3));
        due("refused ones are begun, too", 0, () -> Probe.work(x, "again 40[night;night;night;night;night;];rest 1;"));
        due("refused", 199, () -> x.told(10));
        // 1 again, 39 times 5 of them, each 40 times nothing
        due("agains of nothing come to their end", 1,
            () -> Probe.work(x, "again 39[" + times("again 40[];", 5) + "];fog 2;"));
        due("and back", 1, () -> Probe.work(x, "fog 2;"));
        due("three times two", 6, () -> Probe.work(x, "again 3[again 2[fog 1;];];"));
        due("fog", 0, () -> x.told(4));
        FogWatch y = Probe.in("corner 0;breath 200;");
        Probe.law(y, "0");
        // 1 again, 4 agains of 40 whistles, 1 again, 34 whistles
        due("whistles for nothing", 194, () -> Probe.work(y, "again 40[again 40[blow 1;];];"));
        due("blown", 194, () -> y.told(5));
    }

    private void songsAndBooks() {
        FogWatch x = Probe.in(RING);
        due("a song", 3, () -> Probe.song(x, "0;1; 3 ; "));
        due("told", 3, () -> x.told(8));
        due("a fault", -8, () -> Probe.song(x, "0;5;"));
        due("the old one stays", 3, () -> x.told(8));
        due("a book", 2, () -> Probe.book(x, "9;0;"));
        due("told", 2, () -> x.told(9));
        due("a fault", -9, () -> Probe.book(x, "9;x;"));
        due("the old one stays", 2, () -> x.told(9));
        due("the song is another one", 3, () -> x.told(8));
        due("an empty one", 0, () -> Probe.song(x, ""));
        due("told", 0, () -> x.told(8));
    }

    private void undone() {
        FogWatch x = Probe.in(RING);
        due("nothing to undo", -1, x::undo);
        due("of no steps", 0, () -> Probe.work(x, ""));
        due("undone", 0, x::undo);
        Probe.law(x, "2");
        for (int i = 0; i < 16; i++) {
            due("work " + i, 1, () -> Probe.work(x, "blow 0;again 0[];"));
        }
        due("a fault would be", -20, () -> Probe.work(x, "bad"));
        due("there is none", NONE, x::fault);
        due("the tape is empty", 0, () -> x.count(1));
        due("n is looked at first", ILLEGAL, () -> x.work(1));
        due("blown", 16, () -> x.told(5));
        due("left", 15, x::undo);
        due("one more", 1, () -> Probe.work(x, "rest 1;"));
        due("full", -20, () -> Probe.work(x, "rest 1;"));
        for (int i = 15; i >= 0; i--) {
            int left = i;
            due("undo to " + i, left, x::undo);
        }
        due("none", -1, x::undo);
        due("blown", 0, () -> x.told(5));
        due("breath", 60, () -> x.told(2));
        due("bell", NONE, () -> x.man(0, 1));
        due("refused", 1, () -> Probe.work(x, "walk 0 0;rest 5;"));
        due("told", 1, () -> x.told(10));
        due("undone", 0, x::undo);
        due("told", 0, () -> x.told(10));
        Probe.work(x, "blow 0;fog 2;night;walk 1 0;");
        Probe.law(x, "9");
        Probe.song(x, "1;");
        x.undo();
        due("the law is not undone", 9, () -> x.cost(0));
        due("nor the song", 1, () -> x.told(8));
        due("the men are where they were", 5, () -> x.told(7));
        due("no fog", 0, () -> x.told(4));
        due("no night", 0, () -> x.told(3));
        due("none latest", NONE, () -> x.told(6));
    }

    // ---- promises 10 to 16

    private void toldOfTown() {
        FogWatch x = Probe.in(RING);
        due("corners", 4, () -> x.told(0));
        due("men", 3, () -> x.told(1));
        due("where", 5, () -> x.told(7));
        due("most", 2, () -> x.told(11));
        due("below", ILLEGAL, () -> x.told(-1));
        due("above", ILLEGAL, () -> x.told(12));
        Probe.work(x, "walk 0 2;blow 1;blow 2;");
        due("most", 3, () -> x.told(11));
        due("where", 4, () -> x.told(7));
        due("blown", 2, () -> x.told(5));
        due("latest", 2, () -> x.told(6));
        FogWatch five = Probe.in(times("corner 0;", 10) + times("man 9;", 5));
        due("five at the last corner", 5, () -> five.told(11));
        due("where", 512, () -> five.told(7));
    }

    private void toldOfCornersAndMen() {
        FogWatch x = Probe.in(RING);
        Probe.work(x, "fog 2;");
        due("bell", 3, () -> x.corner(3, 0));
        due("fog", 1, () -> x.corner(2, 1));
        due("no fog", 0, () -> x.corner(3, 1));
        due("men", 6, () -> x.corner(2, 2));
        due("none", 0, () -> x.corner(3, 2));
        due("no such corner, whatever is asked", MISSING, () -> x.corner(4, 9));
        due("no such corner", MISSING, () -> x.corner(-1, 0));
        due("another what", ILLEGAL, () -> x.corner(0, 3));
        due("another what", ILLEGAL, () -> x.corner(0, -1));
        due("a way out of fog is told", 3, () -> x.way(2, 0));
        due("no such corner", MISSING, () -> x.way(4, 4));
        due("no such whistle", ILLEGAL, () -> x.way(3, 4));
        due("no such whistle", ILLEGAL, () -> x.way(3, -1));
        due("corner of a man", 2, () -> x.man(2, 0));
        due("no bell", NONE, () -> x.man(2, 1));
        due("none heard", 0, () -> x.man(2, 2));
        Probe.work(x, "blow 0;");
        due("stayed", 1, () -> x.man(2, 3));
        due("no bell", NONE, () -> x.man(2, 1));
        due("bell", 2, () -> x.man(0, 1));
        due("no such man", MISSING, () -> x.man(3, 9));
        due("no such man", MISSING, () -> x.man(-1, 0));
        due("another what", ILLEGAL, () -> x.man(0, 4));
        due("another what", ILLEGAL, () -> x.man(0, -1));
    }

    private void costs() {
        FogWatch x = Probe.in(RING + "breath 5;");
        due("all", 4, x::wind);
        Probe.work(x, "blow 2;blow 2;");
        due("the third", 3, () -> x.cost(2));
        due("another", 1, () -> x.cost(1));
        due("breath for three", 3, x::wind);
        Probe.law(x, "breath * (1 + whistle)");
        due("breath 2, whistle 3", 8, () -> x.cost(3));
        due("just enough counts", 1, x::wind);
        Probe.law(x, "blown * 10 + fog * 2 + men + night");
        Probe.work(x, "fog 0;fog 1;night;");
        due("20 + 4 + 2 + 1", 27, () -> x.cost(0));
        due("none", 0, x::wind);
        due("no such whistle", ILLEGAL, () -> x.cost(4));
        due("no such whistle", ILLEGAL, () -> x.cost(-1));
    }

    private void nightsAhead() {
        FogWatch x = Probe.in(RING);
        Probe.work(x, "fog 2;fog 3;");
        due("now", 12, () -> x.ahead(0, 0));
        due("one", 9, () -> x.ahead(1, 0));
        due("two", 3, () -> x.ahead(2, 0));
        due("ninety-nine are three", 6, () -> x.ahead(99, 0));
        due("men now", 6, () -> x.ahead(0, 1));
        due("men in one", 1, () -> x.ahead(1, 1));
        due("men in three", 6, () -> x.ahead(3, 1));
        due("below", ILLEGAL, () -> x.ahead(-1, 0));
        due("above", ILLEGAL, () -> x.ahead(100, 0));
        due("another what", ILLEGAL, () -> x.ahead(0, 2));
        due("nothing changed", 12, () -> x.told(4));
        FogWatch one = Probe.in("corner 0;");
        Probe.work(one, "fog 0;night;");
        due("one corner keeps its fog", 1, () -> one.told(4));
        due("one corner ahead", 1, () -> one.ahead(5, 0));
    }

    // ---- promises 17 to 24

    private void gathering() {
        FogWatch x = Probe.in(RING);
        due("no song", 10, () -> x.goes(10));
        Probe.song(x, "0;0;1;");
        due("by a song", 3, () -> x.goes(10));
        due("all", 7, () -> x.goes(15));
        due("bits of none", ILLEGAL, () -> x.goes(16));
        due("bits below", ILLEGAL, () -> x.goes(-1));
        due("fewest", 9, () -> x.reset(15, 0));
        int[] row = {1, 0, 0, 0, 1, 0, 0, 0, 1, NONE};
        for (int k = 0; k < row.length; k++) {
            int at = k;
            due("whistle " + k, row[k], () -> x.row(15, at));
        }
        due("where", 0, () -> x.reset(15, 1));
        due("of one", 0, () -> x.reset(4, 0));
        due("of one", 2, () -> x.reset(4, 1));
        due("of one", NONE, () -> x.row(4, 0));
        due("of none", 0, () -> x.reset(0, 0));
        due("of none", NONE, () -> x.reset(0, 1));
        due("far beyond", NONE, () -> x.row(15, Integer.MAX_VALUE));
        due("bits of none", ILLEGAL, () -> x.reset(16, 0));
        due("another what", ILLEGAL, () -> x.reset(1, 2));
        due("below", ILLEGAL, () -> x.row(1, -1));
        due("bits of none", ILLEGAL, () -> x.row(-8, 0));
        due("home", 11, () -> x.home(15, 2));
        due("home at once", 0, () -> x.home(4, 2));
        due("home of none", 0, () -> x.home(0, 1));
        due("no such corner, whatever the bits", MISSING, () -> x.home(99, 4));
        due("bits of none", ILLEGAL, () -> x.home(16, 0));
        Probe.work(x, "fog 1;");
        due("from fog none goes", NONE, () -> x.home(3, 0));
        due("into fog", 1, () -> x.reset(3, 0));
        due("into fog", 1, () -> x.reset(3, 1));
        due("fog elsewhere", 2, () -> Probe.work(x, "fog 1;fog 0;"));
        due("and are brought to the other", 3, () -> x.reset(3, 0));
        Probe.work(x, "fog 2;");
        due("none", NONE, () -> x.reset(5, 0));
        due("none", NONE, () -> x.reset(5, 1));
        due("none", NONE, () -> x.row(5, 0));
        due("none", NONE, () -> x.cheap(5));
        FogWatch first = Probe.in("corner 0;corner 0;way 3 0 1;way 2 1 0;way 1 0 1;");
        due("of alike ones the first", 1, () -> first.row(3, 0));
        due("where", 1, () -> first.reset(3, 1));
    }

    private void cheapRows() {
        // whistle 0 merges at once; whistle 1 twice does, too
        FogWatch x = Probe.in("corner 0;corner 0;corner 0;way 0 0 2;way 0 1 2;way 1 0 1;way 1 1 2;");
        due("all cost 1", 1, () -> x.cheap(3));
        Probe.law(x, "9 - whistle * 5");
        due("two of 4 are cheaper than 9", 8, () -> x.cheap(7));
        due("one and one, though there is a dearer whistle", 8, () -> x.cheap(3));
        Probe.law(x, "whistle * 60");
        due("for nothing", 0, () -> x.cheap(7));
        due("of one", 0, () -> x.cheap(2));
        due("of none", 0, () -> x.cheap(0));
        due("bits of none", ILLEGAL, () -> x.cheap(8));
        Probe.law(x, "60");
        due("more than breath", 60, () -> x.cheap(7));
        Probe.law(x, "1 + same * 30");
        Probe.work(x, "blow 0;");
        due("each at its cost now: one of 31 or two of 1", 2, () -> x.cheap(7));
    }

    private void telling() {
        FogWatch x = Probe.in("corner 1;corner 1;corner 1;corner 2;way 0 0 1;way 0 1 2;way 0 2 3;way 1 3 0;");
        due("now", 0, () -> x.apart(0, 3));
        due("by one", 1, () -> x.apart(2, 1));
        due("by two", 2, () -> x.apart(0, 1));
        due("by one", 1, () -> x.apart(0, 2));
        due("itself", NONE, () -> x.apart(1, 1));
        due("kinds", 4, x::kinds);
        due("alike", 1, () -> x.alike(0));
        due("no such corner", MISSING, () -> x.apart(0, 4));
        due("no such corner", MISSING, () -> x.apart(-1, 0));
        due("no such corner", MISSING, () -> x.alike(4));
        Probe.work(x, "fog 1;");
        due("in fog they are alike", NONE, () -> x.apart(0, 1));
        due("alike", 3, () -> x.alike(1));
        due("alike", 3, () -> x.alike(0));
        due("kinds", 3, x::kinds);
    }

    // ---- promises 25 to 35

    private void countingRows() {
        FogWatch x = Probe.in("corner 0;corner 0;way 0 0 1;");
        due("none", 1, () -> x.rows(0, 0, 0));
        due("none", 0, () -> x.rows(0, 1, 0));
        due("3 to the 30", 205891132094649L, () -> x.rows(0, 0, 30));
        due("the others", (1L << 60) - 205891132094649L, () -> x.rows(0, 1, 30));
        due("all", 1L << 60, () -> x.rows(1, 1, 30));
        due("n", ILLEGAL, () -> x.rows(0, 0, 31));
        due("n", ILLEGAL, () -> x.rows(0, 0, -1));
        due("no such corner", MISSING, () -> x.rows(0, 2, 31));
        due("no such corner", MISSING, () -> x.rows(2, 0, 0));
        Probe.work(x, "fog 0;");
        due("in fog", 1L << 20, () -> x.rows(0, 0, 10));
    }

    private void rings() {
        FogWatch x = Probe.in(RING);
        due("no song", 1, () -> x.ring(3, 0));
        due("no song", 1, () -> x.ring(3, 1));
        Probe.song(x, "0;1;");
        // 0 to 1, 1 to 2, 2 to 0 (by 3), 3 to 0
        due("from beside the ring", 4, () -> x.ring(3, 0));
        due("from beside the ring", 3, () -> x.ring(3, 1));
        due("on it", 3, () -> x.ring(2, 0));
        due("on it", 3, () -> x.ring(2, 1));
        due("no such corner", MISSING, () -> x.ring(4, 2));
        due("another what", ILLEGAL, () -> x.ring(0, 2));
        Probe.work(x, "fog 1;");
        due("to fog", 2, () -> x.ring(0, 0));
        due("to fog", 1, () -> x.ring(0, 1));
        FogWatch ten = Probe.in(times("corner 0;", 10) + "way 0 0 1;way 0 1 2;way 0 2 3;way 0 3 4;way 0 4 5;"
            + "way 0 5 6;way 0 6 7;way 0 7 8;way 0 8 9;way 0 9 0;");
        Probe.song(ten, "0;");
        due("round ten", 10, () -> ten.ring(4, 0));
        due("round ten", 10, () -> ten.ring(4, 1));
    }

    private void listening() {
        FogWatch x = Probe.in(RING);
        Probe.song(x, "0;0;0;");
        due("no book: all", 15, x::fits);
        Probe.book(x, "1;3;");
        due("as far as both go", 2, x::fits);
        due("where then", 8, x::now);
        due("no such corner then", 1, () -> x.look(1));
        Probe.book(x, "1;");
        due("two fit", 10, x::fits);
        due("where then", 5, x::now);
        due("the first whistle tells", 0, () -> x.look(0));
        due("one is left", 1, () -> x.look(1));
        Probe.book(x, "9;");
        due("none fits", 0, x::fits);
        due("nowhere", 0, x::now);
        due("nothing to blow", NONE, () -> x.look(0));
        due("none left", NONE, () -> x.look(1));
        due("another what", ILLEGAL, () -> x.look(2));
        due("another what", ILLEGAL, () -> x.look(-1));
        Probe.book(x, "1;");
        Probe.work(x, "fog 3;");
        due("who is in fog hears none", 2, x::fits);
        Probe.book(x, "");
        due("without a book all fit, in fog, too", 15, x::fits);
        // by 0: 0 hears 2, 1 hears 1, 2 hears 3, 3 in fog none
        due("all are told", 1, () -> x.look(1));
        Probe.work(x, "fog 0;fog 1;");
        due("three in fog hear none", 3, () -> x.look(1));
        due("of alike ones the first", 0, () -> x.look(0));
        // bells 8 and 9 and none are three
        FogWatch high = Probe.in("corner 8;corner 9;corner 0;");
        Probe.work(high, "fog 2;");
        due("each hears something else", 1, () -> high.look(1));
        // fits are counted, not where they are then: 0 and 1 both end at 2
        FogWatch y = Probe.in("corner 0;corner 0;corner 0;way 0 0 2;way 0 1 2;way 0 2 2;");
        Probe.song(y, "0;");
        Probe.book(y, "0;");
        due("where then", 4, y::now);
        due("left of fits", 3, () -> y.look(1));
    }

    private void chances() {
        FogWatch x = Probe.in(RING);
        Probe.song(x, "0;0;0;0;0;0;0;0;0;0;0;0;0;");
        due("above", 3, () -> x.chance(0, 1, 2, 4, 0));
        due("below", 8, () -> x.chance(0, 1, 2, 4, 1));
        due("above", 9, () -> x.chance(0, 2, 2, 4, 0));
        due("below", 16, () -> x.chance(0, 2, 2, 4, 1));
        due("none above", 0, () -> x.chance(0, 3, 2, 4, 0));
        due("one below", 1, () -> x.chance(0, 3, 2, 4, 1));
        due("none lost, twelve blown", 1, () -> x.chance(0, 0, 12, 0, 0));
        due("all lost", 1, () -> x.chance(3, 3, 12, 16, 1));
        // 12 * 15 + 792 * 15^5 + 220 * 15^9 of 16^12
        due("twelve by 15 of 16, round the ring", 2064975705L, () -> x.chance(0, 1, 12, 1, 0));
        due("twelve by 15 of 16, round the ring", 68719476736L, () -> x.chance(0, 1, 12, 1, 1));
        due("n", ILLEGAL, () -> x.chance(0, 0, 13, 0, 0));
        due("n", ILLEGAL, () -> x.chance(0, 0, -1, 0, 0));
        due("q", ILLEGAL, () -> x.chance(0, 0, 0, 17, 0));
        due("q", ILLEGAL, () -> x.chance(0, 0, 0, -1, 0));
        due("half", ILLEGAL, () -> x.chance(0, 0, 0, 0, 2));
        due("no such corner", MISSING, () -> x.chance(4, 0, 99, 0, 0));
        due("no such corner", MISSING, () -> x.chance(0, -1, 99, 0, 0));
        Probe.song(x, "0;");
        due("all, if there are fewer", 1, () -> x.chance(0, 1, 12, 8, 0));
        due("all, if there are fewer", 2, () -> x.chance(0, 1, 12, 8, 1));
        Probe.work(x, "fog 0;");
        due("in fog he stays", 1, () -> x.chance(0, 0, 12, 8, 1));
    }

    private void turns() {
        FogWatch x = Probe.in(RING);
        due("at one now", 2, () -> x.duel(2, 2));
        due("at once", 1, () -> x.duel(0, 3));
        due("neither", 0, () -> x.duel(0, 2));
        due("no such corner", MISSING, () -> x.duel(0, 4));
        due("no such corner", MISSING, () -> x.duel(4, 0));
        // from 0 and 1 every whistle leads to 2 and 3, whom every whistle brings together
        FogWatch y = Probe.in("corner 0;corner 0;corner 0;corner 0;corner 0;corner 0;"
            + "way 0 0 2;way 1 0 2;way 2 0 2;way 3 0 2;way 0 1 3;way 1 1 3;way 2 1 3;way 3 1 3;way 0 2 3;"
            + "way 1 2 3;way 2 2 3;way 3 2 3;way 0 4 0;way 0 5 1;");
        due("the first", 1, () -> y.duel(2, 3));
        due("the second", 2, () -> y.duel(0, 1));
        due("the second, turned round", 2, () -> y.duel(1, 0));
        due("the first, by leading there", 1, () -> y.duel(4, 5));
        Probe.work(y, "fog 2;");
        due("in fog nobody is brought", 0, () -> y.duel(2, 3));
        due("so neither", 0, () -> y.duel(0, 1));
    }

    private void reaching() {
        FogWatch x = Probe.in("corner 0;corner 0;corner 0;corner 0;way 3 0 1;way 2 1 2;way 0 3 0;");
        due("reach", 7, () -> x.reach(0));
        due("reach", 15, () -> x.reach(3));
        due("itself", 4, () -> x.reach(2));
        due("no such corner", MISSING, () -> x.reach(4));
        due("from", 3, () -> x.from(1, 3));
        due("from", 0, () -> x.from(3, 0));
        due("from", 8, () -> x.from(3, 1));
        due("no such corner", MISSING, () -> x.from(4, 4));
        due("no such whistle", ILLEGAL, () -> x.from(0, 4));
        due("still", 4, x::still);
        Probe.work(x, "fog 1;fog 3;");
        due("reach", 3, () -> x.reach(0));
        due("reach", 8, () -> x.reach(3));
        due("from fog", 8, () -> x.from(3, 0));
        due("still", 14, x::still);
    }

    // ---- promises 36 and 37

    private void watches() {
        FogWatch x = Probe.in(RING);
        // seed 1: draws by 15 bits 16838, 5758, 10113, 17515, 31051, 5627, 23010, 7419, ..
        // q 0: whistle 16838 % 4 = 2, (5758 % 16), whistle 10113 % 4 = 1, (17515 % 16)
        due("one night", 5, () -> x.watch(1, 0, 1, 0));
        due("breath", 58, () -> x.watch(1, 0, 1, 1));
        due("blown", 2, () -> x.watch(1, 0, 1, 2));
        due("no fog", 0, () -> x.watch(1, 0, 1, 3));
        // q 15: 5758 % 16 = 14 is below: fog 10113 % 4 = 1; whistle 17515 % 4 = 3; 31051 % 16 = 11: fog 5627 % 4 = 3
        due("fog at 1 and 3, then night", 5, () -> x.watch(1, 15, 1, 3));
        // q 14: 14 is not below; whistle 10113 % 4 = 1; 17515 % 16 = 11 is: fog 31051 % 4 = 3, which the night brings to 0
        due("q 14 leaves the first fog out", 1, () -> x.watch(1, 14, 1, 3));
        due("q", ILLEGAL, () -> x.watch(1, 17, 1, 0));
        due("q", ILLEGAL, () -> x.watch(1, -1, 1, 0));
        due("nights", ILLEGAL, () -> x.watch(1, 0, 0, 0));
        due("nights", ILLEGAL, () -> x.watch(1, 0, 49, 0));
        due("what", ILLEGAL, () -> x.watch(1, 0, 1, 4));
        due("what", ILLEGAL, () -> x.watch(1, 0, 1, -1));
        due("nobody was moved", 5, () -> x.told(7));
        due("no night passed", 0, () -> x.told(3));
        due("breath", 60, () -> x.told(2));
        Probe.law(x, "night / 10");
        Probe.work(x, "again 40[night;night;night;night;];rest 60;");
        Probe.work(x, "again 40[night;night;night;night;];");
        Probe.work(x, "again 40[night;night;];");
        due("the last night", 400, () -> x.told(3));
        due("beyond 400: 120 less 40, 40, 40 - and no more", 3, () -> x.watch(7, 0, 48, 2));
        Probe.law(x, "most[0, 401 - night] * 60");
        due("beyond 400: 2 by the first night, then all for nothing", 96, () -> x.watch(7, 0, 48, 2));
        due("breath", 0, () -> x.watch(7, 0, 48, 1));
        Probe.law(x, "blown * 10");
        due("0, 10, 20, 30, 40; 50 is too much", 5, () -> x.watch(9, 0, 48, 2));
        Probe.work(x, "blow 0;blow 0;blow 0;");
        due("blown by now counts, and what was blown ahead is not in it", 2, () -> x.watch(9, 0, 48, 2));
        FogWatch none = new FogWatch();
        due("no corners: nothing is blown", 0, () -> none.watch(5, 16, 48, 2));
        due("no corners", 60, () -> none.watch(5, 16, 48, 1));
        due("no corners", 0, () -> none.watch(5, 16, 48, 3));
    }

    private void spans() {
        FogWatch x = Probe.in(RING + "breath 3;");
        for (int seed = -3; seed < 4; seed++) {
            int first = seed;
            int least = Integer.MAX_VALUE;
            int most = 0;
            int there = 0;
            for (int i = 0; i < 10; i++) {
                int blown = x.watch(seed + i, 9, 20, 2);
                least = Math.min(least, blown);
                most = Math.max(most, blown);
                there += x.watch(seed + i, 9, 20, 0) >> 3 & 1;
            }
            due("fewest", least, () -> x.span(first, 10, 9, 20, 0, 3));
            due("most", most, () -> x.span(first, 10, 9, 20, 1, 3));
            due("there", there, () -> x.span(first, 10, 9, 20, 2, 3));
        }
        due("one seed", x.watch(77, 3, 5, 2), () -> x.span(77, 1, 3, 5, 1, 0));
        due("seeds wrap", Math.min(x.watch(Integer.MAX_VALUE, 3, 5, 2), x.watch(Integer.MIN_VALUE, 3, 5, 2)),
            () -> x.span(Integer.MAX_VALUE, 2, 3, 5, 0, 0));
        due("many", ILLEGAL, () -> x.span(1, 0, 0, 1, 0, 0));
        due("many", ILLEGAL, () -> x.span(1, 11, 0, 1, 0, 0));
        due("q", ILLEGAL, () -> x.span(1, 1, 17, 1, 0, 0));
        due("nights", ILLEGAL, () -> x.span(1, 1, 0, 49, 0, 0));
        due("what", ILLEGAL, () -> x.span(1, 1, 0, 1, 3, 0));
        due("corner", ILLEGAL, () -> x.span(1, 1, 0, 1, 0, 4));
        due("corner", ILLEGAL, () -> x.span(1, 1, 0, 1, 1, -1));
        due("no corners", ILLEGAL, () -> new FogWatch().span(1, 1, 0, 1, 0, 0));
    }

    // ---- promises 38 to 41

    private void images() {
        FogWatch x = Probe.in(RING);
        due("no image", -1, x::restore);
        Probe.work(x, "blow 0;");
        due("first", 1, x::image);
        Probe.work(x, "fog 1;night;");
        due("second", 2, x::image);
        due("third", 3, x::image);
        due("no fourth", -1, x::image);
        due("images", 3, () -> x.count(0));
        Probe.work(x, "walk 0 3;walk 0 3;");
        due("refused", 1, () -> x.told(10));
        due("undone", 2, x::undo);
        due("undone", 1, x::undo);
        due("undone", 0, x::undo);
        Probe.law(x, "4");
        due("restored", 2, x::restore);
        due("works", 2, () -> x.count(2));
        due("fog", 4, () -> x.told(4));
        due("refused", 0, () -> x.told(10));
        due("the law is as told since", 4, () -> x.cost(0));
        due("undone", 1, x::undo);
        due("no fog", 0, () -> x.told(4));
        due("the first whistle", 0, () -> x.told(6));
        due("undone", 0, x::undo);
        due("nothing blown", 0, () -> x.told(5));
        due("the second one was not touched", 1, x::restore);
        due("works", 2, () -> x.count(2));
        due("night", 1, () -> x.told(3));
        Probe.work(x, "night;walk 0 1;");
        due("refused", 1, () -> x.told(10));
        due("the first one", 0, x::restore);
        due("works", 1, () -> x.count(2));
        due("night", 0, () -> x.told(3));
        due("refused", 0, () -> x.told(10));
        Probe.work(x, "walk 1 3;");
        due("none left", -1, x::restore);
        due("refused", 1, () -> x.told(10));
        due("works", 2, () -> x.count(2));
        x.image();
        for (int i = 0; i < 14; i++) {
            Probe.work(x, "");
        }
        due("full", -20, () -> Probe.work(x, ""));
        x.restore();
        due("as many as in the image", 2, () -> x.count(2));
        FogWatch y = Probe.in(RING);
        Probe.work(y, "rest 1;");
        Probe.work(y, "rest 2;");
        y.image();
        y.undo();
        y.undo();
        Probe.work(y, "rest 10;");
        Probe.work(y, "rest 20;");
        Probe.work(y, "rest 40;");
        due("restored", 0, y::restore);
        due("breath", 63, () -> y.told(2));
        due("the works of the image are undone", 1, y::undo);
        due("breath", 61, () -> y.told(2));
        due("and the first one", 0, y::undo);
        due("breath", 60, () -> y.told(2));
    }

    private void refusals() {
        FogWatch x = Probe.in("corner 0;");
        due("none", 0, () -> x.status(0));
        due("none", 0, () -> x.status(1));
        x.image();
        due("missing", MISSING, () -> x.alike(1));
        due("missing", MISSING, () -> x.man(0, 0));
        due("illegal", ILLEGAL, () -> x.told(99));
        x.restore();
        due("no image keeps it", 2, () -> x.status(0));
        due("no image keeps it", 1, () -> x.status(1));
        Probe.town(x, "");
        due("no town either", 2, () -> x.status(0));
        due("others", NONE, () -> x.status(2));
        due("others", NONE, () -> x.status(-1));
        due("others", NONE, () -> x.count(3));
        due("others", NONE, () -> x.count(-1));
        due("no refusal", 1, () -> x.status(1));
        x.feed(0, 0, 0, 0, 0);
        due("bytes", 20, () -> x.count(1));
        due("NONE", -1, () -> FogWatch.NONE);
    }
}
