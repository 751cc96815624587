/** The edges of the steps (Terms, ==== 2): how many are begun, which are refused and when, what they change. */
public final class StepEdgeTest {
    private static final int NONE = FogWatch.NONE;

    // a ring of four by whistle 0; whistle 1 brings 3 to 0
    private static final String RING = "corner 1;corner 2;corner 1;corner 3;way 0 0 1;way 0 1 2;way 0 2 3;"
        + "way 0 3 0;way 1 3 0;man 0;man 2;man 2;";
    private static final String TEN = "corner 0;corner 1;corner 2;corner 3;corner 4;corner 5;corner 6;corner 7;"
        + "corner 8;corner 9;";

    private final Probe probe = new Probe();

    public static void main(String[] args) {
        StepEdgeTest test = new StepEdgeTest();
        test.atFirst();
        test.twoHundredAreBegun();
        test.refusedOnesAreBegun();
        test.agains();
        test.loopsWithinLoops();
        test.blowByBreath();
        test.blowMovesAllAtOnce();
        test.blowInFog();
        test.blowWithNobody();
        test.fogIsNeverRefused();
        test.rests();
        test.walks();
        test.nightsTo400();
        test.fogGoesOn();
        test.sameWhistle();
        test.factsAtTheirMost();
        test.refusedChangeNothing();
        test.probe.close("StepEdgeTest");
    }

    private void due(String what, long want, Probe.Call call) {
        probe.due(what, want, call);
    }

    /** A work's answer, and how many steps it had refused. */
    private void work(FogWatch x, String text, int done, int refused) {
        due("work " + text, done, () -> Probe.work(x, text));
        due("refused by " + text, refused, () -> x.told(10));
    }

    private void told(FogWatch x, int what, int want) {
        due("told " + what, want, () -> x.told(what));
    }

    private void man(FogWatch x, int man, int corner, int bell, int heard, int stayed) {
        due("corner of man " + man, corner, () -> x.man(man, 0));
        due("bell of man " + man, bell, () -> x.man(man, 1));
        due("heard by man " + man, heard, () -> x.man(man, 2));
        due("stayed by man " + man, stayed, () -> x.man(man, 3));
    }

    private void atFirst() {
        FogWatch x = Probe.in(RING);
        told(x, 3, 0);
        told(x, 4, 0);
        told(x, 5, 0);
        told(x, 6, NONE);
        told(x, 10, 0);
        man(x, 0, 0, NONE, 0, 0);
        man(x, 1, 2, NONE, 0, 0);
        man(x, 2, 2, NONE, 0, 0);
    }

    // ---- two hundred

    private void twoHundredAreBegun() {
        String most = "again 40[night;night;night;night;];";
        FogWatch x = Probe.in(RING);
        work(x, most + "again 38[night;];", 198, 0);
        told(x, 3, 198);
        FogWatch y = Probe.in(RING);
        work(y, most + "again 38[night;];fog 0;", 198, 0);
        told(y, 4, 0);
        told(y, 3, 198);
        FogWatch z = Probe.in(RING);
        work(z, most + "again 37[night;];fog 0;", 198, 0);
        told(z, 4, 1);
        told(z, 3, 197);
        FogWatch last = Probe.in(RING);
        work(last, most + "again 37[night;];fog 0;fog 1;", 198, 0);
        told(last, 4, 1);
        FogWatch within = Probe.in(RING);
        work(within, "again 40[night;night;night;night;night;];fog 0;", 199, 0);
        told(within, 3, 199);
        told(within, 4, 0);
        work(within, "fog 0;", 1, 0);
        told(within, 4, 1);
    }

    private void refusedOnesAreBegun() {
        String most = "again 40[walk 0 0;walk 0 0;walk 0 0;walk 0 0;];";
        FogWatch x = Probe.in(RING);
        work(x, most + "again 38[walk 0 0;];fog 0;", 0, 198);
        told(x, 4, 0);
        work(x, most + "again 37[walk 0 0;];fog 0;", 1, 197);
        told(x, 4, 1);
        work(x, most + "again 40[walk 0 0;];walk 0 0;", 0, 198);
    }

    private void agains() {
        FogWatch x = Probe.in(RING);
        work(x, "again 0[night;];", 0, 0);
        told(x, 3, 0);
        work(x, "again 1[night;];", 1, 0);
        work(x, "again 40[night;];", 40, 0);
        told(x, 3, 41);
        work(x, "again 40[];night;", 1, 0);
        work(x, "again 3[walk 0 0;rest 1;];", 3, 3);
        work(x, "again 0[walk 0 0;];", 0, 0);
        // 1 and 160 and 1 and 38: no step more
        String empty = Probe.times("again 0[];", 4);
        work(x, "again 40[" + empty + "];again 38[again 0[];];night;", 0, 0);
        work(x, "again 40[" + empty + "];again 37[again 0[];];night;", 1, 0);
        work(x, "again 40[" + empty + "];again 37[again 0[];];night;night;", 1, 0);
        // one again of forty times nothing is one step
        work(x, Probe.times("again 40[];", 12) + "night;", 1, 0);
        String forty = Probe.times("again 40[];", 4);
        work(x, "again 40[" + forty + "];again 38[again 40[];];night;", 0, 0);
        work(x, "again 40[" + forty + "];again 37[again 40[];];night;", 1, 0);
    }

    private void loopsWithinLoops() {
        FogWatch x = Probe.in(RING);
        work(x, Probe.times("again 2[", 6) + "fog 0;" + Probe.times("];", 6), 64, 0);
        told(x, 4, 0);
        // of three times six deep: 1, 1, 121 with 81 fogs, 1, 40 with 27, 1, 13, 13 with 9 each, 1, 4, 4 with 3 each
        work(x, Probe.times("again 3[", 6) + "fog 0;" + Probe.times("];", 6), 132, 0);
        told(x, 4, 0);
        work(x, "again 2[again 3[night;];rest 1;again 0[night;];];", 8, 0);
        told(x, 3, 6);
        work(x, "again 2[again 2[night;];];again 2[again 2[night;];];", 8, 0);
        told(x, 3, 14);
    }

    // ---- blow

    private void blowByBreath() {
        FogWatch one = Probe.in(RING + "breath 1;");
        work(one, "blow 0;", 1, 0);
        told(one, 2, 0);
        String then = Probe.sceneOf(one);
        work(one, "blow 0;blow 1;blow 2;blow 3;", 0, 4);
        probe.dueSame("refused for want of breath", then, Probe.sceneOf(one));
        Probe.law(one, "0");
        work(one, "blow 3;", 1, 0);
        told(one, 2, 0);
        FogWatch dear = Probe.in(RING + "breath 60;");
        Probe.law(dear, "60");
        work(dear, "blow 0;", 1, 0);
        told(dear, 2, 0);
        FogWatch short1 = Probe.in(RING + "breath 59;");
        Probe.law(short1, "60");
        work(short1, "blow 0;", 0, 1);
        told(short1, 2, 59);
        work(short1, "rest 1;blow 0;", 2, 0);
        FogWatch more = Probe.in(RING + "breath 61;");
        Probe.law(more, "999");
        work(more, "blow 0;blow 0;", 1, 1);
        told(more, 2, 1);
        FogWatch below = Probe.in(RING + "breath 5;");
        Probe.law(below, "0-9");
        work(below, "blow 0;", 1, 0);
        told(below, 2, 5);
        FogWatch all = Probe.in(RING + "breath 9;");
        Probe.law(all, "breath");
        work(all, "blow 0;blow 0;", 2, 0);
        told(all, 2, 0);
        Probe.law(all, "breath+1");
        work(all, "blow 0;", 0, 1);
        work(all, "rest 60;blow 0;", 2, 0);
        told(all, 2, 0);
    }

    private void blowMovesAllAtOnce() {
        FogWatch x = Probe.in("corner 4;corner 5;way 2 0 1;way 2 1 0;man 0;man 1;man 1;");
        work(x, "blow 2;", 1, 0);
        man(x, 0, 1, 5, 1, 0);
        man(x, 1, 0, 4, 1, 0);
        man(x, 2, 0, 4, 1, 0);
        // by a way to itself he hears its bell, too, and has not stayed in fog
        work(x, "blow 3;", 1, 0);
        man(x, 0, 1, 5, 2, 0);
        told(x, 5, 2);
        told(x, 6, 3);
        FogWatch five = Probe.in(TEN + "man 0;man 9;man 5;man 5;man 1;way 0 0 9;way 0 9 1;way 0 5 0;");
        work(five, "blow 0;", 1, 0);
        man(five, 0, 9, 9, 1, 0);
        man(five, 1, 1, 1, 1, 0);
        man(five, 2, 0, 0, 1, 0);
        man(five, 3, 0, 0, 1, 0);
        man(five, 4, 1, 1, 1, 0);
    }

    private void blowInFog() {
        FogWatch x = Probe.in(RING);
        work(x, "fog 1;blow 0;", 2, 0);
        man(x, 0, 1, 2, 1, 0);
        work(x, "blow 0;", 1, 0);
        man(x, 0, 1, 2, 1, 1);
        man(x, 1, 0, 1, 2, 0);
        work(x, "fog 1;blow 0;", 2, 0);
        man(x, 0, 2, 1, 2, 1);
        FogWatch all = Probe.in(RING);
        work(all, "fog 0;fog 1;fog 2;fog 3;blow 0;blow 0;", 6, 0);
        man(all, 0, 0, NONE, 0, 2);
        man(all, 2, 2, NONE, 0, 2);
        told(all, 5, 2);
        told(all, 6, 0);
        told(all, 2, 57);
        FogWatch last = Probe.in(TEN + "way 0 9 0;way 0 8 9;man 9;man 8;");
        work(last, "fog 9;blow 0;", 2, 0);
        man(last, 0, 9, NONE, 0, 1);
        man(last, 1, 9, 9, 1, 0);
    }

    private void blowWithNobody() {
        FogWatch x = new FogWatch();
        work(x, "blow 3;blow 3;", 2, 0);
        told(x, 2, 57);
        told(x, 5, 2);
        told(x, 6, 3);
        FogWatch empty = Probe.in("corner 1;breath 0;");
        work(empty, "blow 0;", 0, 1);
        told(empty, 6, NONE);
        told(empty, 5, 0);
    }

    // ---- fog, rest, walk

    private void fogIsNeverRefused() {
        FogWatch x = Probe.in(TEN + "man 9;breath 0;");
        work(x, "fog 9;", 1, 0);
        told(x, 4, 512);
        work(x, "fog 9;", 1, 0);
        told(x, 4, 0);
        work(x, "again 40[fog 0;];", 40, 0);
        told(x, 4, 0);
        work(x, "again 39[fog 0;];", 39, 0);
        told(x, 4, 1);
        work(x, "fog 1;fog 2;fog 3;fog 4;fog 5;fog 6;fog 7;fog 8;fog 9;", 9, 0);
        told(x, 4, 1023);
        man(x, 0, 9, NONE, 0, 0);
    }

    private void rest(int breath, int more, int then, int done) {
        FogWatch x = Probe.in("corner 0;breath " + breath + ";");
        work(x, "rest " + more + ";", done, 1 - done);
        told(x, 2, then);
    }

    private void rests() {
        rest(0, 1, 1, 1);
        rest(0, 60, 60, 1);
        rest(139, 60, 199, 1);
        rest(140, 60, 200, 1);
        rest(141, 60, 200, 1);
        rest(199, 1, 200, 1);
        rest(199, 60, 200, 1);
        rest(200, 1, 200, 0);
        rest(200, 60, 200, 0);
        FogWatch x = Probe.in("breath 190;");
        work(x, "rest 10;rest 1;blow 0;rest 1;rest 1;", 3, 2);
        told(x, 2, 200);
    }

    private void walks() {
        FogWatch x = Probe.in(TEN + "man 0;man 9;way 0 0 3;");
        work(x, "walk 0 0;", 0, 1);
        work(x, "walk 1 9;", 0, 1);
        work(x, "walk 0 9;walk 0 9;walk 1 0;", 2, 1);
        man(x, 0, 9, NONE, 0, 0);
        man(x, 1, 0, NONE, 0, 0);
        work(x, "blow 0;fog 3;fog 9;walk 1 9;walk 0 3;", 5, 0);
        man(x, 0, 3, 9, 1, 0);
        man(x, 1, 9, 3, 1, 0);
        work(x, "walk 0 3;walk 1 3;", 1, 1);
        told(x, 7, 8);
        told(x, 2, 59);
        told(x, 6, 0);
        told(x, 5, 1);
    }

    // ---- nights

    private static FogWatch at399() {
        FogWatch x = Probe.in(RING);
        Probe.work(x, "again 40[night;night;night;night;];");
        Probe.work(x, "again 40[night;night;night;night;];");
        Probe.work(x, "again 39[night;night;];night;");
        return x;
    }

    private void nightsTo400() {
        FogWatch x = at399();
        told(x, 3, 399);
        work(x, "night;night;", 1, 1);
        told(x, 3, 400);
        work(x, "blow 0;fog 1;", 2, 0);
        String then = Probe.sceneOf(x);
        work(x, "night;", 0, 1);
        probe.dueSame("refused from night 400 on", then, Probe.sceneOf(x));
        told(x, 6, 0);
        told(x, 4, 2);
        due("same stays, too", 2, () -> x.cost(0));
        work(x, "again 40[night;];blow 0;", 1, 40);
        told(x, 3, 400);
        FogWatch y = at399();
        work(y, "blow 0;fog 3;night;", 3, 0);
        told(y, 3, 400);
        told(y, 6, NONE);
        told(y, 4, 1);
        due("undone, there is a night again", 3, y::undo);
        work(y, "night;", 1, 0);
    }

    private void fogGoesOn() {
        FogWatch x = Probe.in(TEN);
        work(x, "fog 8;fog 9;night;", 3, 0);
        told(x, 4, 513);
        work(x, "night;", 1, 0);
        told(x, 4, 3);
        work(x, "again 9[night;];", 9, 0);
        told(x, 4, 513);
        work(x, "night;", 1, 0);
        told(x, 4, 3);
        work(x, "fog 2;fog 3;fog 4;fog 5;fog 6;fog 7;fog 8;fog 9;night;", 9, 0);
        told(x, 4, 1023);
        FogWatch one = Probe.in("corner 0;");
        work(one, "fog 0;night;", 2, 0);
        told(one, 4, 1);
        FogWatch two = Probe.in("corner 0;corner 0;man 1;");
        work(two, "fog 1;night;", 2, 0);
        told(two, 4, 1);
        man(two, 0, 1, NONE, 0, 0);
        work(two, "night;night;night;", 3, 0);
        told(two, 4, 2);
        FogWatch none = new FogWatch();
        work(none, "night;", 1, 0);
        told(none, 4, 0);
        told(none, 3, 1);
    }

    // ---- what a law sees

    private void cost(FogWatch x, int whistle, int want) {
        due("cost of " + whistle, want, () -> x.cost(whistle));
    }

    private void sameWhistle() {
        FogWatch x = Probe.in(RING + "breath 200;");
        Probe.law(x, "same");
        cost(x, 0, 0);
        work(x, "blow 0;blow 0;blow 0;", 3, 0);
        cost(x, 0, 3);
        cost(x, 1, 0);
        work(x, "rest 1;fog 0;fog 0;walk 0 0;walk 0 0;again 1[];", 4, 1);
        cost(x, 0, 3);
        work(x, "blow 1;", 1, 0);
        cost(x, 0, 0);
        cost(x, 1, 1);
        work(x, "blow 0;", 1, 0);
        cost(x, 0, 1);
        cost(x, 1, 0);
        work(x, "blow 0;night;", 2, 0);
        cost(x, 0, 0);
        work(x, "blow 0;", 1, 0);
        cost(x, 0, 1);
        FogWatch poor = Probe.in(RING + "breath 5;");
        Probe.law(poor, "same + whistle * 9");
        work(poor, "blow 0;blow 0;blow 1;", 2, 1);
        // a refused one is neither the latest nor one between
        cost(poor, 0, 2);
        told(poor, 6, 0);
        work(poor, "blow 0;", 1, 0);
        cost(poor, 0, 3);
    }

    private void factsAtTheirMost() {
        FogWatch x = Probe.in(TEN + "man 9;man 9;man 9;man 9;man 9;breath 200;");
        Probe.law(x, "fog");
        cost(x, 0, 0);
        work(x, "fog 0;fog 1;fog 2;fog 3;fog 4;fog 5;fog 6;fog 7;fog 8;fog 9;", 10, 0);
        cost(x, 0, 10);
        Probe.law(x, "men");
        cost(x, 3, 5);
        Probe.law(x, "whistle");
        cost(x, 3, 3);
        Probe.law(x, "breath/10");
        cost(x, 0, 20);
        Probe.law(x, "blown");
        work(x, "walk 0 8;walk 1 8;blow 0;", 3, 0);
        cost(x, 0, 1);
        Probe.law(x, "men");
        cost(x, 0, 3);
        told(x, 11, 3);
        FogWatch late = at399();
        work(late, "night;", 1, 0);
        Probe.law(late, "night/10");
        cost(late, 0, 40);
        FogWatch none = new FogWatch();
        Probe.law(none, "men+fog+blown+night+same+whistle");
        cost(none, 0, 0);
        Probe.law(none, "0");
        work(none, "again 40[blow 0;blow 0;blow 0;blow 0;];", 160, 0);
        Probe.law(none, "blown-120");
        cost(none, 1, 40);
        Probe.law(none, "same-120");
        cost(none, 0, 40);
        cost(none, 1, 0);
    }

    private void refusedChangeNothing() {
        FogWatch x = Probe.in(RING + "breath 200;");
        Probe.law(x, "1");
        work(x, "blow 0;rest 1;fog 3;", 3, 0);
        String then = Probe.sceneOf(x);
        work(x, "rest 60;walk 0 1;walk 1 3;", 0, 3);
        probe.dueSame("refused ones change nothing", then, Probe.sceneOf(x));
        due("but it is a work", 2, () -> x.count(2));
        // what comes behind a refused one is done
        work(x, "walk 0 1;walk 0 0;rest 1;night;", 2, 2);
        told(x, 3, 1);
    }
}
