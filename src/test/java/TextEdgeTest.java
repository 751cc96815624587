/** The edges of the texts (Terms, ==== 1): bytes, clauses, numbers, words, blanks, faults and their places, values. */
public final class TextEdgeTest {
    private static final int NONE = FogWatch.NONE;

    // four corners, three men
    private static final String SMALL = "corner 1;corner 2;corner 3;corner 4;man 0;man 2;man 2;";

    private final Probe probe = new Probe();

    public static void main(String[] args) {
        TextEdgeTest test = new TextEdgeTest();
        test.townBytes();
        test.townClauses();
        test.townCorners();
        test.townWays();
        test.townMen();
        test.townBreath();
        test.lawBytes();
        test.lawNumbersAndWords();
        test.lawShape();
        test.lawOpenAtOneTime();
        test.lawOrder();
        test.valuesWrap();
        test.valuesCutAndLeave();
        test.valuesByNought();
        test.costsAtLeastAndAtMost();
        test.workBytes();
        test.workNumbers();
        test.workShape();
        test.workOpenAtOneTime();
        test.songs();
        test.books();
        test.digits();
        test.words();
        test.blanksAheadOfAll();
        test.blanksWithin();
        test.everyByte();
        test.firstFromTheLeft();
        test.ofOneTheLeast();
        test.endsTooEarly();
        test.probe.close("TextEdgeTest");
    }

    private static String times(String text, int many) {
        return Probe.times(text, many);
    }

    private static String blanks(int many) {
        return Probe.blanks(many);
    }

    private void due(String what, long want, Probe.Call call) {
        probe.due(what, want, call);
    }

    private void town(String text, int want, int place) {
        probe.dueText(Probe.Text.TOWN, SMALL, text, want, place);
    }

    private void law(String text, int want, int place) {
        probe.dueText(Probe.Text.LAW, SMALL, text, want, place);
    }

    private void work(String text, int want, int place) {
        probe.dueText(Probe.Text.WORK, SMALL, text, want, place);
    }

    private void song(String text, int want, int place) {
        probe.dueText(Probe.Text.SONG, SMALL, text, want, place);
    }

    private void book(String text, int want, int place) {
        probe.dueText(Probe.Text.BOOK, SMALL, text, want, place);
    }

    /** What comes out of a law, the facts being 3 7 5 4 2 11 13. */
    private void cost(String law, int want) {
        FogWatch x = new FogWatch();
        due("law " + law, 1, () -> Probe.law(x, law));
        due("cost by " + law, want, () -> x.would(3, 7, 5, 4, 2, 11, 13));
    }

    // ---- a town

    private void townBytes() {
        town("", 0, NONE);
        town(" ", 0, NONE);
        town(blanks(600), 0, NONE);
        town(blanks(591) + "corner 5;", 1, NONE);
        town("corner 5;" + blanks(591), 1, NONE);
        town(times("breath 10;", 60), 0, NONE);
        town(blanks(599) + "x", -9, 599);
        town(blanks(592) + "corner 5", -9, 600);
        town("corner 5" + blanks(592), -9, 600);
        // of a longer tape only the first n bytes are the text
        String two = "corner 7;corner 12;";
        for (int n = 0; n <= two.length(); n++) {
            int bytes = n;
            FogWatch x = new FogWatch();
            Probe.put(x, two);
            int want = n == 0 ? 0 : n == 9 ? 1 : n >= 18 ? -8 : -9;
            due("the first " + n + " bytes", want, () -> x.town(bytes));
        }
        FogWatch x = new FogWatch();
        Probe.put(x, "breath 2001;");
        due("a number ends with the text", -9, () -> x.town(10));
        due("its place", 10, x::fault);
    }

    private void townClauses() {
        town(times("breath 1;", 59) + "corner 1;", 1, NONE);
        town("corner 1;" + times("way 0 0 0;", 59), 1, NONE);
        for (String word : new String[] {"corner 1;", "way 0 0 0;", "man 0;", "breath 1;"}) {
            town("corner 1;" + times("breath 1;", 59) + word, -7, 540);
            town("corner 1;" + times("breath 1;", 59) + blanks(3) + word, -7, 543);
        }
        town(times("breath 1;", 60) + "corner", -7, 540);
        town(times("breath 1;", 60) + blanks(60), 0, NONE);
        town(times("breath 1;", 60) + ";", -9, 540);
        town(times("breath 1;", 60) + "corne 1;", -9, 540);
        town(times("breath 1;", 59) + "breath 201;breath 1;", -8, 538);
    }

    private void townCorners() {
        town("corner 0;", 1, NONE);
        town("corner 9;", 1, NONE);
        town("corner 10;", -8, 7);
        town("corner ;", -9, 7);
        town("corner", -9, 6);
        town("corner 1 2;", -9, 9);
        town(times("corner 9;", 9), 9, NONE);
        town(times("corner 9;", 10), 10, NONE);
        town(times("corner 9;", 11), -7, 90);
        town(times("corner 9;", 10) + "  corner", -7, 92);
        town(times("corner 9;", 10) + "way 3 9 9;man 9;corner 9;", -7, 106);
        town(times("corner 9;", 9) + "corner 10;corner 1;", -8, 88);
        FogWatch x = Probe.in("corner 9;corner 0;");
        due("numbered from 0 on", 9, () -> x.corner(0, 0));
        due("and so on", 0, () -> x.corner(1, 0));
    }

    private void townWays() {
        String ten = times("corner 0;", 10);
        town("corner 0;way 0 0 0;", 1, NONE);
        town(ten + "way 3 9 9;", 10, NONE);
        town(ten + "way 4 9 9;", -8, 94);
        town(ten + "way 3 10 9;", -8, 96);
        town(ten + "way 3 9 10;", -8, 98);
        town("way 4 0 0;", -8, 4);
        town("way 3 0 0;", -8, 6);
        town("corner 0;way 0 1 0;corner 0;", -8, 15);
        town("corner 0;way 0 0 1;corner 0;", -8, 17);
        town("corner 0;corner 0;way 0 1 0;way 0 0 1;", 2, NONE);
        town("corner 0;way;", -9, 12);
        town("corner 0;way 0;", -9, 14);
        town("corner 0;way 0 0;", -9, 16);
        town("corner 0;way 0 0 0 0;", -9, 19);
        FogWatch x = Probe.in("corner 0;corner 0;corner 0;way 1 0 1;way 1 0 2;way 2 0 1;way 2 0 0;way 1 2 1;corner 0;");
        due("of one W and A the last counts", 2, () -> x.way(0, 1));
        due("also if it leads to itself", 0, () -> x.way(0, 2));
        due("another A is another way", 1, () -> x.way(2, 1));
        due("another W is another way", 2, () -> x.way(2, 2));
        for (int whistle = 0; whistle < 4; whistle++) {
            int w = whistle;
            due("without: to A itself", 1, () -> x.way(1, w));
            due("a corner told behind, too", 3, () -> x.way(3, w));
        }
    }

    private void townMen() {
        town("corner 0;man 0;", 1, NONE);
        town("man 0;", -8, 4);
        town("man 0;corner 0;", -8, 4);
        town("corner 0;man 1;corner 0;", -8, 13);
        town(times("corner 0;", 10) + "man 9;", 10, NONE);
        town(times("corner 0;", 10) + "man 10;", -8, 94);
        town("corner 0;" + times("man 0;", 5), 1, NONE);
        town("corner 0;" + times("man 0;", 6), -7, 39);
        town("corner 0;" + times("man 0;", 5) + " man 1;", -7, 40);
        town("corner 0;" + times("man 0;", 5) + "man", -7, 39);
        town("corner 0;" + times("man 0;", 5) + "mana 1;", -9, 39);
        town("corner 0;" + times("man 0;", 5) + "corner 1;", 2, NONE);
        FogWatch x = Probe.in("corner 0;corner 0;man 1;man 0;");
        due("numbered from 0 on", 1, () -> x.man(0, 0));
        due("and so on", 0, () -> x.man(1, 0));
    }

    private void dueBreath(String text, int want) {
        due("breath by " + text, want, () -> Probe.in(text).told(2));
    }

    private void townBreath() {
        dueBreath("", 60);
        dueBreath("corner 0;man 0;", 60);
        dueBreath("breath 0;", 0);
        dueBreath("breath 200;", 200);
        dueBreath("breath 200;breath 1;", 1);
        dueBreath("breath 1;breath 200;corner 0;", 200);
        town("breath 201;", -8, 7);
        town("breath 1;breath 201;", -8, 16);
        town("breath;", -9, 6);
    }

    // ---- a law

    private void lawBytes() {
        law("", -9, 0);
        law(blanks(150), -9, 150);
        law(blanks(149) + "7", 1, NONE);
        law("7" + blanks(149), 1, NONE);
        law(blanks(149) + "x", -9, 149);
        law(times("1+", 75), -9, 150);
        cost(times("0+", 74) + "7 ", 7);
        cost(times("1*", 74) + "42", 42);
        cost(times("9-", 74) + "1 ", 0);
        cost("999" + times("-8", 73) + " ", 60);
        FogWatch x = new FogWatch();
        Probe.put(x, "42");
        due("of a longer tape the first bytes", 1, () -> x.law(1));
        due("are the law", 4, () -> x.cost(0));
    }

    private void lawNumbersAndWords() {
        law("0", 1, NONE);
        law("999", 1, NONE);
        law("1000", -8, 0);
        law("999+1000", -8, 4);
        law("(1000)", -8, 1);
        law("least[1000,1]", -8, 6);
        law("most[1,1000]", -8, 7);
        for (String word : new String[] {"whistle", "blown", "same", "fog", "men", "night", "breath"}) {
            law(word, 1, NONE);
            law(word + "s", -9, 0);
            law(word.substring(1), -9, 0);
            law(word.substring(0, word.length() - 1), -9, 0);
            law(word + " " + word, -9, word.length() + 1);
            law(word + "1", -9, word.length());
            law("1" + word, -9, 1);
        }
        law("corner", -9, 0);
        law("least", -9, 5);
        law("most", -9, 4);
        law("leasts[1,2]", -9, 0);
        law("mos[1,2]", -9, 0);
        FogWatch x = Probe.in(SMALL);
        for (int whistle = 0; whistle < 4; whistle++) {
            int w = whistle;
            due("without a law: 1 and same", 1, () -> x.cost(w));
            due("without a law: 1 and same", 8, () -> x.would(w, 9, 7, 9, 5, 9, 9));
        }
    }

    private void lawShape() {
        law("+1", -9, 0);
        law("-1", -9, 0);
        law("1+", -9, 2);
        law("1++1", -9, 2);
        law("1*-1", -9, 2);
        law("1/", -9, 2);
        law("1%%1", -9, 2);
        law("()", -9, 1);
        law("(1", -9, 2);
        law("(1))", -9, 3);
        law("1)", -9, 1);
        law("(1]", -9, 2);
        law("1;", -9, 1);
        law("1,1", -9, 1);
        law("[1]", -9, 0);
        law("least[,1]", -9, 6);
        law("least[1,]", -9, 8);
        law("least[1;1]", -9, 7);
        law("least[1,1)", -9, 9);
        law("least[1,1,1]", -9, 9);
        law("least(1,1)", -9, 5);
        law("most[1]", -9, 6);
        law("most[1,1", -9, 8);
        law("most[1,1]]", -9, 9);
        law("most[1,1]1", -9, 9);
        law("(1)(1)", -9, 3);
        law("2(1)", -9, 1);
    }

    private void lawOpenAtOneTime() {
        law(times("(", 6) + "1" + times(")", 6), 1, NONE);
        law(times("(", 7) + "1" + times(")", 7), -7, 6);
        law(times(" (", 7), -7, 13);
        law(times("(", 6), -9, 6);
        law("((((((1)))))+(1))", 1, NONE);
        law("((((((1)))))+((((((1", -7, 18);
        law(times("((((((1))))))+", 5) + "1", 1, NONE);
        law(times("least[", 6) + "1" + times(",1]", 6), 1, NONE);
        law(times("least[", 6) + "least", -7, 36);
        law(times("most[1,", 6) + "1" + times("]", 6), 1, NONE);
        law(times("most[1,", 6) + "most", -7, 42);
        law(times("most[1,", 6) + "(", -7, 42);
        law("(least[most[(least[most[1,1],1]),1],1])", 1, NONE);
        law("(least[most[(least[most[(1),1],1]),1],1])", -7, 24);
        // what is closed is open no more; behind the comma it still is
        law("least[(((((1))))),(((((1)))))]", 1, NONE);
        law("least[(((((1))))),((((((1))))))]", -7, 23);
        law("((((((1))))))+least[1,1]*((((((1))))))", 1, NONE);
        law("(((((least[1,1]+(1)+most[1,1])))))", 1, NONE);
        law("((((((least", -7, 6);
        law("((((((leasts", -9, 6);
        law("((((((1000", -8, 6);
    }

    private void lawOrder() {
        cost("2+3*4", 14);
        cost("3*4+2", 14);
        cost("(2+3)*4", 20);
        cost("30-20-5", 5);
        cost("30-(20-5)", 15);
        cost("30-20+5", 15);
        cost("60/2/3", 10);
        cost("60/(6/3)", 30);
        cost("60/2*3-50", 40);
        cost("17%10%4", 3);
        cost("7*8%10", 6);
        cost("50-7%4*3", 41);
        cost("50-6/4", 49);
        cost("least[7,9]+most[7,9]", 16);
        cost("least[9,7]*10+most[9,7]-60", 19);
        cost("least[5,5]+most[6,6]", 11);
        cost("most[0-5,0-9]+9", 4);
        cost("least[0-5,0-9]+19", 10);
        cost("least[1+2,2*2]", 3);
        cost("whistle*10+same", 35);
        cost("most[whistle,least[blown,most[same,fog]]]", 5);
        cost("men+night+breath", 26);
    }

    private void valuesWrap() {
        String lowest = "(128*256*256*256)";
        String highest = "(128*256*256*256-1)";
        cost(lowest, 0);
        cost(highest, 60);
        cost(highest + "+1", 0);
        cost(lowest + "-1", 60);
        cost(lowest + "-1-" + highest + "+7", 7);
        cost("0-" + lowest, 0);
        cost("0-" + lowest + "-" + lowest + "+7", 7);
        cost(lowest + "+" + lowest + "+5", 5);
        cost(lowest + "*2+5", 5);
        cost(lowest + "*(0-1)", 0);
        cost(highest + "*" + highest, 1);
        cost(highest + "*2+9", 7);
        // between, too: the product is 1, and 1 / highest is 0
        cost(highest + "*" + highest + "/" + highest + "+3", 3);
        cost(highest + "*2/2+8", 7);
        cost(lowest + "/(0-1)", 0);
        cost(lowest + "/(0-1)-" + lowest + "+7", 7);
        cost(lowest + "%(0-1)+7", 7);
        cost("least[" + lowest + "," + highest + "]", 0);
        cost("most[" + lowest + ",7]", 7);
        cost("least[" + highest + ",7]", 7);
        cost("256*256*256*256+8", 8);
    }

    private void valuesCutAndLeave() {
        cost("7/2", 3);
        cost("20+(0-7)/2", 17);
        cost("20+7/(0-2)", 17);
        cost("(0-7)/(0-2)", 3);
        cost("1/2", 0);
        cost("20+(0-1)/2", 20);
        cost("7%3", 1);
        cost("20+(0-7)%3", 19);
        cost("20+7%(0-3)", 21);
        cost("20+(0-7)%(0-3)", 19);
        cost("20+(0-6)%3", 20);
        cost("5%7", 5);
        cost("20+(0-5)%7", 15);
        cost("9/1", 9);
        cost("9%1", 0);
        cost("20+9/(0-1)", 11);
    }

    private void valuesByNought() {
        cost("7/0", 0);
        cost("7%0", 0);
        cost("9+7/0", 9);
        cost("9+7%0", 9);
        cost("9+(0-7)/0", 9);
        cost("9+(0-7)%0", 9);
        cost("9+0/0", 9);
        cost("9+0%0", 9);
        cost("9+(128*256*256*256)/0", 9);
        cost("9+(128*256*256*256)%0", 9);
        cost("9+7/(men-2)", 9);
        cost("9+7%(256*256*256*256)", 9);
        cost("7/0+3", 3);
        cost("7%0*5+3", 3);
    }

    private void costsAtLeastAndAtMost() {
        cost("0", 0);
        cost("1", 1);
        cost("0-1", 0);
        cost("0-999", 0);
        cost("59", 59);
        cost("60", 60);
        cost("61", 60);
        cost("999", 60);
        // only what comes out is bounded, not what goes into it
        cost("61-2", 59);
        cost("(0-5)+7", 2);
    }

    // ---- work

    private void workBytes() {
        work("", 0, NONE);
        work(blanks(150), 0, NONE);
        work(times("night;", 25), 25, NONE);
        work(times("again 0[];", 15), 0, NONE);
        work(blanks(144) + "night;", 1, NONE);
        work(blanks(145) + "night", -9, 150);
        work(blanks(149) + ";", -9, 149);
        work(times("night;", 24) + "nigh; ", -9, 144);
    }

    private void workNumbers() {
        work("blow 0;", 1, NONE);
        work("blow 3;", 1, NONE);
        work("blow 4;", -8, 5);
        work("fog 0;", 1, NONE);
        work("fog 3;", 1, NONE);
        work("fog 4;", -8, 4);
        work("rest 0;", -8, 5);
        work("rest 1;", 1, NONE);
        work("rest 60;", 1, NONE);
        work("rest 61;", -8, 5);
        work("walk 0 1;", 1, NONE);
        work("walk 2 3;", 1, NONE);
        work("walk 3 0;", -8, 5);
        work("walk 2 4;", -8, 7);
        work("walk 3 4;", -8, 5);
        work("again 0[night;];", 0, NONE);
        work("again 1[night;];", 1, NONE);
        work("again 40[night;];", 40, NONE);
        work("again 41[night;];", -8, 6);
        String ten = times("corner 0;", 10) + times("man 0;", 5);
        probe.dueText(Probe.Text.WORK, ten, "fog 9;walk 4 9;", 2, NONE);
        probe.dueText(Probe.Text.WORK, ten, "fog 10;", -8, 4);
        probe.dueText(Probe.Text.WORK, ten, "walk 5 9;", -8, 5);
        probe.dueText(Probe.Text.WORK, ten, "walk 4 10;", -8, 7);
        probe.dueText(Probe.Text.WORK, "", "fog 0;", -8, 4);
        probe.dueText(Probe.Text.WORK, "", "walk 0 0;", -8, 5);
        probe.dueText(Probe.Text.WORK, "corner 0;", "walk 0 0;", -8, 5);
        probe.dueText(Probe.Text.WORK, "", "blow 3;rest 1;night;again 1[];", 3, NONE);
        // what is left out is read all the same
        work("again 0[fog 4;];", -8, 12);
        work("again 40[night;night;night;night;night;];blow 4;", -8, 46);
    }

    private void workShape() {
        work(";", -9, 0);
        work("blow;", -9, 4);
        work("blow 0", -9, 6);
        work("blow 0;;", -9, 7);
        work("blow 0 0;", -9, 7);
        work("fog;", -9, 3);
        work("rest;", -9, 4);
        work("walk;", -9, 4);
        work("walk 0;", -9, 6);
        work("walk 0 1 2;", -9, 9);
        work("night 1;", -9, 6);
        work("night,", -9, 5);
        work("again[];", -9, 5);
        work("again 1;", -9, 7);
        work("again 1[;];", -9, 8);
        work("again 1[night];", -9, 13);
        work("again 1[night;]", -9, 15);
        work("again 1[night;", -9, 14);
        work("again 1[", -9, 8);
        work("again 1[]];", -9, 9);
        work("again 1[] night;", -9, 10);
        work("]", -9, 0);
        work("night;];", -9, 6);
        work("[night;];", -9, 0);
        work("again 1(night;);", -9, 7);
        work("0;", -9, 0);
    }

    private void workOpenAtOneTime() {
        String six = times("again 1[", 6);
        work(six + times("];", 6), 0, NONE);
        work(six + "night;" + times("];", 6), 1, NONE);
        work(six + "again 1[];" + times("];", 6), -7, 48);
        work(six + "  again", -7, 50);
        work(six + "again 41", -7, 48);
        work(six + "agai 1[", -9, 48);
        work(six + "];again 1[];" + times("];", 5), 0, NONE);
        work(six + "];again 1[again", -7, 58);
        work(six + times("];", 6) + six + times("];", 6), 0, NONE);
        work(six + times("];", 6) + six + "again", -7, 108);
    }

    // ---- songs and books

    private void songs() {
        song("", 0, NONE);
        song(blanks(60), 0, NONE);
        song("0;", 1, NONE);
        song("3;", 1, NONE);
        song("4;", -8, 0);
        song("0;1;2;3;4;", -8, 8);
        song("0", -9, 1);
        song(";", -9, 0);
        song("0;;", -9, 2);
        song("0,1;", -9, 1);
        song("blow 0;", -9, 0);
        song(times("3;", 19), 19, NONE);
        song(times("3;", 20), 20, NONE);
        song(times("3;", 20) + blanks(20), 20, NONE);
        song(times("3;", 21), -7, 40);
        song(times("3;", 20) + "  3", -7, 42);
        song(times("3;", 20) + "x", -9, 40);
        song(times("3;", 19) + "4;3;3;", -8, 38);
        song(times(" 3;", 20), 20, NONE);
        song(blanks(58) + "3;", 1, NONE);
        song(blanks(59) + "3", -9, 60);
    }

    private void books() {
        book("", 0, NONE);
        book(blanks(60), 0, NONE);
        book("0;", 1, NONE);
        book("9;", 1, NONE);
        book("10;", -8, 0);
        book("9", -9, 1);
        book(";", -9, 0);
        book("9;;", -9, 2);
        book(times("9;", 19), 19, NONE);
        book(times("9;", 20), 20, NONE);
        book(times("9;", 20) + blanks(20), 20, NONE);
        book(times("9;", 21), -7, 40);
        book(times("9;", 20) + "  0", -7, 42);
        book(times("9;", 20) + "]", -9, 40);
        book(times("9;", 19) + "10;9;9;", -8, 38);
        book(times(" 9;", 20), 20, NONE);
        book(blanks(59) + "9", -9, 60);
    }

    // ---- numbers, words, blanks

    private void digits() {
        town("corner 0009;", 1, NONE);
        town("corner " + times("0", 592) + "9", -9, 600);
        town("corner " + times("0", 591) + "9;", 1, NONE);
        town("corner " + times("0", 590) + "10;", -8, 7);
        // these are small ones, were only 32 or 64 bits of them looked at
        town("corner 4294967296;", -8, 7);
        town("corner 4294967297;", -8, 7);
        town("corner 18446744073709551616;", -8, 7);
        town("corner 18446744073709551617;", -8, 7);
        town("corner 2147483648;", -8, 7);
        town("corner " + times("9", 592) + ";", -8, 7);
        town("corner 0x1;", -9, 8);
        town("corner 1.5;", -9, 8);
        town("corner +1;", -9, 7);
        town("corner -1;", -9, 7);
        town("corner0;way000;", -9, 14);
        town("corner0;way0 0 0;man0;breath0;", 1, NONE);
        law("0000000999", 1, NONE);
        law("00000001000", -8, 0);
        work("rest 00;", -8, 5);
        work("again 0040[];", 0, NONE);
        song("00;003;", 2, NONE);
        song("01234;", -8, 0);
        book("009;", 1, NONE);
        cost("0042", 42);
    }

    private void words() {
        for (String word : new String[] {"corner", "way", "man", "breath"}) {
            town(word + "s 0;", -9, 0);
            town(word.substring(1) + " 0;", -9, 0);
            town(word.substring(0, word.length() - 1) + " 0;", -9, 0);
            town(Character.toUpperCase(word.charAt(0)) + word.substring(1) + " 0;", -9, 0);
            town(word + "X 0;", -9, word.length());
        }
        for (String word : new String[] {"blow", "fog", "rest", "walk", "night", "again"}) {
            work(word + "s 0;", -9, 0);
            work(word.substring(1) + " 0;", -9, 0);
            work(word.substring(0, word.length() - 1) + " 0;", -9, 0);
            work(word.substring(0, 1) + "X;", -9, 0);
            work(word + "X", -9, word.length());
        }
        for (String word : new String[] {"corner", "way", "man", "breath"}) {
            misspelt(Probe.Text.TOWN, word, " 0;");
        }
        for (String word : new String[] {"blow", "fog", "rest", "walk", "night", "again"}) {
            misspelt(Probe.Text.WORK, word, ";");
        }
        for (String word : new String[] {"whistle", "blown", "same", "fog", "men", "night", "breath", "least", "most"}) {
            misspelt(Probe.Text.LAW, word, "");
        }
        // words of one text are none of another
        town("blow 0;", -9, 0);
        work("man 0;", -9, 0);
        work("corner 0;", -9, 0);
        law("walk", -9, 0);
        town("cornercorner 0;", -9, 0);
    }

    /** Each letter another one, a or z behind or ahead, each letter a large one. */
    private void misspelt(Probe.Text kind, String word, String rest) {
        for (int i = 0; i < word.length(); i++) {
            for (String letter : new String[] {"a", "z"}) {
                String other = word.substring(0, i) + letter + word.substring(i + 1);
                if (!other.equals(word)) {
                    probe.dueText(kind, SMALL, other + rest, -9, 0);
                }
            }
            String large = word.substring(0, i) + Character.toUpperCase(word.charAt(i)) + word.substring(i + 1);
            probe.dueText(kind, SMALL, large + rest, -9, 0);
        }
        for (String letter : new String[] {"a", "z"}) {
            probe.dueText(kind, SMALL, word + letter + rest, -9, 0);
            probe.dueText(kind, SMALL, letter + word + rest, -9, 0);
        }
    }

    private void blanksAheadOfAll() {
        town("  corner  1  ;  corner  2  ;  way  0  1  0  ;  man  1  ;  breath  7  ;  ", 2, NONE);
        law("  least  [  1  ,  2  ]  +  most  [  3  ,  (  4  )  ]  *  5  -  6  /  7  %  8  ", 1, NONE);
        work("  again  2  [  blow  0  ;  fog  1  ;  rest  1  ;  walk  0  3  ;  night  ;  ]  ;  ", 9, NONE);
        song("  0  ;  3  ;  ", 2, NONE);
        book("  0  ;  9  ;  ", 2, NONE);
        town("corner1;corner2;way0 1 0;man1;breath7;", 2, NONE);
        law("least[1,2]+most[3,(4)]*5-6/7%8", 1, NONE);
        work("again2[blow0;fog1;rest1;walk0 3;night;];", 9, NONE);
    }

    private void blanksWithin() {
        town("cor ner 1;", -9, 0);
        town("corner 1 0;", -9, 9);
        law("le ast[1,2]", -9, 0);
        law("9 9", -9, 2);
        work("nig ht;", -9, 0);
        work("rest 6 0;", -9, 7);
        song("0 0;", -9, 2);
        town("corner\t1;", -9, 6);
        town("corner 1;\n", -9, 9);
        town("\r", -9, 0);
        town("corner" + (char) 160 + "1;", -9, 6);
    }

    /** Each byte at a place where a sign of its own is due. */
    private void everyByte() {
        for (int sign = 0; sign < 256; sign++) {
            String one = String.valueOf((char) sign);
            boolean digit = sign >= '0' && sign <= '9';
            boolean joins = "+-*/%".indexOf(sign) >= 0;
            boolean blank = sign == ' ';
            law("1" + one + "1", digit || joins ? 1 : -9, digit || joins ? NONE : blank ? 2 : 1);
            town("breath 1" + one, sign == ';' ? 0 : -9, sign == ';' ? NONE : blank || digit ? 9 : 8);
            song(one + ";", sign >= '0' && sign <= '3' ? 1 : digit ? -8 : -9,
                sign >= '0' && sign <= '3' ? NONE : blank ? 1 : 0);
            work(one, blank ? 0 : -9, blank ? NONE : 0);
        }
    }

    // ---- faults

    private void firstFromTheLeft() {
        town("corner 10;corner x;", -8, 7);
        town("corner x;corner 10;", -9, 7);
        town("way 4 9 9;", -8, 4);
        town("corner 0;way 0 9 9;", -8, 15);
        town(times("corner 0;", 10) + "corner 10;x", -7, 90);
        town("corner 10 corner", -8, 7);
        law("1000+x", -8, 0);
        law("x+1000", -9, 0);
        law("1000(", -8, 0);
        law("(((((((1000", -7, 6);
        work("blow 4", -8, 5);
        work("rest 61 x", -8, 5);
        work("walk 9 x;", -8, 5);
        work("blow 0;rest 0;blow 9;", -8, 12);
        song("9;x", -8, 0);
        book("x;10", -9, 0);
    }

    private void ofOneTheLeast() {
        song(times("0;", 20) + "4", -8, 40);
        song(times("0;", 20) + "99999999999", -8, 40);
        song(times("0;", 20) + "x", -9, 40);
        book(times("0;", 20) + "10", -8, 40);
        book(times("0;", 20) + "a", -9, 40);
        town(times("breath 1;", 60) + "breaths", -9, 540);
        town("corner 0;" + times("man 0;", 5) + times("breath 1;", 54) + "man 9;", -7, 525);
    }

    /** A sound text cut short is at fault at its length, unless it ends where one may. */
    private void endsTooEarly() {
        String whole = "corner 1;way 0 0 0;man 0;breath 7;";
        for (int n = 1; n < whole.length(); n++) {
            if (whole.charAt(n - 1) != ';' && !endsInAWord(whole, n)) {
                town(whole.substring(0, n), -9, n);
                town(whole.substring(0, n) + "  ", -9, n + 2);
            }
        }
        town("corner 1;wa", -9, 9);
        town("corner 1;way", -9, 12);
        String law = "least[1,(2+3)]*most[4,5]";
        for (int n : new int[] {5, 6, 7, 8, 9, 10, 11, 12, 13, 15, 19, 20, 21, 22, 23}) {
            law(law.substring(0, n), -9, n);
            law(law.substring(0, n) + " ", -9, n + 1);
        }
        String work = "again 2[walk 0 1;blow 2;];";
        for (int n : new int[] {5, 6, 7, 8, 12, 13, 14, 15, 16, 17, 21, 22, 23, 24, 25}) {
            work(work.substring(0, n), -9, n);
            work(work.substring(0, n) + " ", -9, n + 1);
        }
    }

    /** Whether a cut leaves a word that is none; such a one is at fault at its own place. */
    private static boolean endsInAWord(String text, int n) {
        return Character.isLetter(text.charAt(n - 1)) && Character.isLetter(text.charAt(n));
    }
}
