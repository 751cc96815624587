import java.util.Arrays;
import java.util.NoSuchElementException;

/** A town in fog, its night watch, and what whistles do to those who are out. */
public final class FogWatch {
    public static final int NONE = -1;

    private static final int MOST_CORNERS = 10;
    private static final int MOST_BELL = 9;
    private static final int MOST_MEN = 5;
    private static final int MOST_CLAUSES = 60;
    private static final int WHISTLES = 4;
    private static final int SETS = 1 << MOST_CORNERS;

    private static final int TAPE_BYTES = 600;
    private static final int LAW_BYTES = 150;
    private static final int WORK_BYTES = 150;
    private static final int TUNE_BYTES = 60;
    private static final int MOST_NOTES = 20;
    private static final int MOST_OPEN = 6;

    private static final int FIRST_BREATH = 60;
    private static final int MOST_BREATH = 200;
    private static final int MOST_COST = 60;
    private static final int LAST_NIGHT = 400;
    private static final int MOST_STEPS = 200;
    private static final int MOST_REST = 60;
    private static final int MOST_AGAIN = 40;
    private static final int MOST_WORKS = 16;
    private static final int MOST_IMAGES = 3;

    private static final int CANNOT_STAND = 1;
    private static final int NO_SUCH_NUMBER = 2;
    private static final int TOO_MANY = 3;
    private static final int FAULT_LESS = 10;
    private static final int WORKS_ARE_FULL = -20;

    private static final int SIXTEENTHS = 16;
    private static final int SEED_TIMES = 1103515245;
    private static final int SEED_AND = 12345;
    private static final int DRAWN_BITS = 0x7fff;
    private static final int MOST_ROW = 30;
    private static final int MOST_CHANCE = 12;
    private static final int MOST_AHEAD = 99;
    private static final int MOST_WATCH = 48;
    private static final int MOST_SEEDS = 10;
    private static final int MOST_TOLD_COUNT = 999;

    private final Tape tape = new Tape();
    private Town place = new Town();
    private Town sparePlace = new Town();
    private Law rule = new Law();
    private Law spareRule = new Law();
    private final Steps steps = new Steps();
    private Tune blownTune = new Tune();
    private Tune heardTune = new Tune();
    private Tune spareTune = new Tune();
    private final Story story = new Story();
    private final Story[] images = new Story[MOST_IMAGES];
    private int imageCount = 0;
    private final Streets streets = new Streets();
    private final Gather gather = new Gather();
    private final Pairs pairs = new Pairs();
    private final Listener listener = new Listener();
    private final Scene dream = new Scene();
    private int drawSeed = 0;
    private int missing = 0;
    private int illegal = 0;

    public FogWatch() {
        for (int i = 0; i < images.length; i++) {
            images[i] = new Story();
        }
        story.begin(place);
    }

    // ---- texts

    public int feed(int a, int b, int c, int d, int e) {
        return tape.add(a, b, c, d, e);
    }

    public int town(int n) throws IllegalArgumentException {
        openText(n, TAPE_BYTES);
        if (!sparePlace.read(tape)) {
            return faultAnswer();
        }
        Town told = sparePlace;
        sparePlace = place;
        place = told;
        rule.useCommon();
        blownTune.clear();
        heardTune.clear();
        imageCount = 0;
        story.begin(place);
        steps.forget();
        streets.forget();
        return place.corners;
    }

    public int law(int n) throws IllegalArgumentException {
        openText(n, LAW_BYTES);
        if (!spareRule.read(tape)) {
            return faultAnswer();
        }
        Law told = spareRule;
        spareRule = rule;
        rule = told;
        return 1;
    }

    public int work(int n) throws IllegalArgumentException {
        openText(n, WORK_BYTES);
        if (story.works >= MOST_WORKS) {
            return WORKS_ARE_FULL;
        }
        if (!steps.read(tape, place)) {
            return faultAnswer();
        }
        story.remember();
        return steps.perform(story.present, place, rule);
    }

    public int song(int n) throws IllegalArgumentException {
        openText(n, TUNE_BYTES);
        if (!spareTune.read(tape, WHISTLES - 1)) {
            return faultAnswer();
        }
        Tune told = spareTune;
        spareTune = blownTune;
        blownTune = told;
        return told.size;
    }

    public int book(int n) throws IllegalArgumentException {
        openText(n, TUNE_BYTES);
        if (!spareTune.read(tape, MOST_BELL)) {
            return faultAnswer();
        }
        Tune told = spareTune;
        spareTune = heardTune;
        heardTune = told;
        return told.size;
    }

    public int fault() {
        return tape.faultPlace;
    }

    public int undo() {
        if (!story.goBack()) {
            return NONE;
        }
        steps.forget();
        return story.works;
    }

    // ---- what is told and who is where

    public int told(int what) throws IllegalArgumentException {
        demandRange(what, 0, 11);
        Scene scene = story.present;
        switch (what) {
            case 0: return place.corners;
            case 1: return place.men;
            case 2: return scene.breath;
            case 3: return scene.night;
            case 4: return scene.fog;
            case 5: return scene.blown;
            case 6: return scene.latest;
            case 7: return scene.peopled(place.men);
            case 8: return blownTune.size;
            case 9: return heardTune.size;
            case 10: return steps.refused;
            default: return scene.crowd(place.men);
        }
    }

    public int corner(int corner, int what) throws NoSuchElementException, IllegalArgumentException {
        demandCorner(corner);
        demandRange(what, 0, 2);
        Scene scene = story.present;
        if (what == 0) {
            return place.bellOf(corner);
        }
        return what == 1 ? scene.fog >> corner & 1 : scene.menIn(1 << corner, place.men);
    }

    public int way(int corner, int whistle) throws NoSuchElementException, IllegalArgumentException {
        demandCorner(corner);
        demandWhistle(whistle);
        return place.leadsTo(corner, whistle);
    }

    public int man(int man, int what) throws NoSuchElementException, IllegalArgumentException {
        if (man < 0 || man >= place.men) {
            refuseMissing();
        }
        demandRange(what, 0, Scene.FACTS - 1);
        return story.present.ofMan(man, what);
    }

    public int cost(int whistle) throws IllegalArgumentException {
        demandWhistle(whistle);
        return story.present.price(whistle, place.men, rule);
    }

    public int would(int whistle, int blown, int same, int fog, int men, int night, int breath)
            throws IllegalArgumentException {
        demandWhistle(whistle);
        demandRange(blown, 0, MOST_TOLD_COUNT);
        demandRange(same, 0, MOST_TOLD_COUNT);
        demandRange(fog, 0, MOST_CORNERS);
        demandRange(men, 0, MOST_MEN);
        demandRange(night, 0, LAST_NIGHT);
        demandRange(breath, 0, MOST_BREATH);
        return rule.price(whistle, blown, same, fog, men, night, breath);
    }

    public int ahead(int n, int what) throws IllegalArgumentException {
        demandRange(n, 0, MOST_AHEAD);
        demandRange(what, 0, 1);
        int fog = place.drift(story.present.fog, n);
        return what == 0 ? fog : story.present.menIn(fog, place.men);
    }

    // ---- where whistles bring everybody

    public int goes(int corners) throws IllegalArgumentException {
        demandSet(corners);
        layStreets();
        int set = corners;
        for (int i = 0; i < blownTune.size; i++) {
            set = streets.bring(set, blownTune.note(i));
        }
        return set;
    }

    public int reset(int corners, int what) throws IllegalArgumentException {
        demandSet(corners);
        demandRange(what, 0, 1);
        if (corners == 0) {
            return what == 0 ? 0 : NONE;
        }
        layStreets();
        gather.find(streets, corners, Gather.ANY_CORNER);
        return what == 0 ? gather.length() : gather.meeting();
    }

    public int row(int corners, int k) throws IllegalArgumentException {
        demandSet(corners);
        demandRange(k, 0, Integer.MAX_VALUE);
        if (corners == 0) {
            return NONE;
        }
        layStreets();
        gather.find(streets, corners, Gather.ANY_CORNER);
        return gather.whistle(k);
    }

    public int home(int corners, int corner) throws NoSuchElementException, IllegalArgumentException {
        demandCorner(corner);
        demandSet(corners);
        if (corners == 0) {
            return 0;
        }
        layStreets();
        gather.find(streets, corners, 1 << corner);
        return gather.length();
    }

    public int cheap(int corners) throws IllegalArgumentException {
        demandSet(corners);
        if (corners == 0) {
            return 0;
        }
        layStreets();
        for (int whistle = 0; whistle < WHISTLES; whistle++) {
            gather.prices[whistle] = story.present.price(whistle, place.men, rule);
        }
        return gather.cheapest(streets, corners);
    }

    public int apart(int corner, int other) throws NoSuchElementException {
        demandCorner(corner);
        demandCorner(other);
        layStreets();
        pairs.tellApart(streets, place);
        return pairs.markOf(corner, other);
    }

    public int alike(int corner) throws NoSuchElementException {
        demandCorner(corner);
        layStreets();
        pairs.tellApart(streets, place);
        return pairs.unmarkedWith(corner, place.corners);
    }

    public int kinds() {
        layStreets();
        pairs.tellApart(streets, place);
        int many = 0;
        for (int corner = 0; corner < place.corners; corner++) {
            int lower = (1 << corner) - 1;
            if ((pairs.unmarkedWith(corner, place.corners) & lower) == 0) {
                many++;
            }
        }
        return many;
    }

    public long rows(int corner, int other, int n) throws NoSuchElementException, IllegalArgumentException {
        demandCorner(corner);
        demandCorner(other);
        demandRange(n, 0, MOST_ROW);
        layStreets();
        streets.startWeights(corner);
        for (int i = 0; i < n; i++) {
            streets.spreadByAll();
        }
        return streets.weightOf(other);
    }

    public int ring(int corner, int what) throws NoSuchElementException, IllegalArgumentException {
        demandCorner(corner);
        demandRange(what, 0, 1);
        layStreets();
        return listener.roundOf(streets, blownTune, corner, what == 0);
    }

    // ---- what was heard

    public int fits() {
        listen();
        return listener.fitting(place.corners);
    }

    public int now() {
        listen();
        return listener.endings(place.corners);
    }

    public int look(int what) throws IllegalArgumentException {
        demandRange(what, 0, 1);
        listen();
        if (listener.fitting(place.corners) == 0) {
            return NONE;
        }
        listener.chooseWhistle(streets, place);
        return what == 0 ? listener.bestWhistle : listener.leastLeft;
    }

    public long chance(int corner, int other, int n, int q, int half)
            throws NoSuchElementException, IllegalArgumentException {
        demandCorner(corner);
        demandCorner(other);
        demandRange(n, 0, MOST_CHANCE);
        demandRange(q, 0, SIXTEENTHS);
        demandRange(half, 0, 1);
        layStreets();
        streets.startWeights(corner);
        int blown = Math.min(n, blownTune.size);
        for (int i = 0; i < blown; i++) {
            streets.spreadByChance(blownTune.note(i), q);
        }
        return leastTerms(streets.weightOf(other), 4 * blown, half == 0);
    }

    public int duel(int corner, int other) throws NoSuchElementException {
        demandCorner(corner);
        demandCorner(other);
        layStreets();
        pairs.playTurns(streets);
        return pairs.markOf(corner, other);
    }

    public int reach(int corner) throws NoSuchElementException {
        demandCorner(corner);
        layStreets();
        int set = 1 << corner;
        for (int round = 0; round < MOST_CORNERS; round++) {
            int wider = set;
            for (int whistle = 0; whistle < WHISTLES; whistle++) {
                wider |= streets.bring(set, whistle);
            }
            set = wider;
        }
        return set;
    }

    public int from(int corner, int whistle) throws NoSuchElementException, IllegalArgumentException {
        demandCorner(corner);
        demandWhistle(whistle);
        layStreets();
        int set = 0;
        for (int start = 0; start < place.corners; start++) {
            if (streets.next(start, whistle) == corner) {
                set |= 1 << start;
            }
        }
        return set;
    }

    public int still() {
        layStreets();
        int set = 0;
        for (int corner = 0; corner < place.corners; corner++) {
            if (streets.staysAt(corner)) {
                set |= 1 << corner;
            }
        }
        return set;
    }

    public int wind() {
        int many = 0;
        for (int whistle = 0; whistle < WHISTLES; whistle++) {
            if (story.present.price(whistle, place.men, rule) <= story.present.breath) {
                many++;
            }
        }
        return many;
    }

    // ---- watches by seeds

    public int watch(int seed, int q, int nights, int what) throws IllegalArgumentException {
        demandRange(q, 0, SIXTEENTHS);
        demandRange(nights, 1, MOST_WATCH);
        demandRange(what, 0, 3);
        dreamOf(seed, q, nights);
        switch (what) {
            case 0: return dream.peopled(place.men);
            case 1: return dream.breath;
            case 2: return dream.blown - story.present.blown;
            default: return dream.fog;
        }
    }

    public int span(int seed, int many, int q, int nights, int what, int corner)
            throws IllegalArgumentException {
        demandRange(many, 1, MOST_SEEDS);
        demandRange(q, 0, SIXTEENTHS);
        demandRange(nights, 1, MOST_WATCH);
        demandRange(what, 0, 2);
        demandRange(corner, 0, place.corners - 1);
        int fewest = Integer.MAX_VALUE;
        int most = 0;
        int met = 0;
        for (int i = 0; i < many; i++) {
            dreamOf(seed + i, q, nights);
            int blown = dream.blown - story.present.blown;
            fewest = Math.min(fewest, blown);
            most = Math.max(most, blown);
            met += dream.peopled(place.men) >> corner & 1;
        }
        if (what == 0) {
            return fewest;
        }
        return what == 1 ? most : met;
    }

    // ---- images and counts

    public int image() {
        if (imageCount >= MOST_IMAGES) {
            return NONE;
        }
        images[imageCount].copyFrom(story);
        imageCount++;
        return imageCount;
    }

    public int restore() {
        if (imageCount <= 0) {
            return NONE;
        }
        imageCount--;
        story.copyFrom(images[imageCount]);
        steps.forget();
        return imageCount;
    }

    public int status(int what) {
        if (what == 0) {
            return missing;
        }
        return what == 1 ? illegal : NONE;
    }

    public int count(int what) {
        switch (what) {
            case 0: return imageCount;
            case 1: return tape.filled;
            case 2: return story.works;
            default: return NONE;
        }
    }

    // ---- refusals

    private void refuseMissing() {
        missing++;
        throw new NoSuchElementException("no such corner or man");
    }

    private void demandCorner(int corner) {
        if (corner < 0 || corner >= place.corners) {
            refuseMissing();
        }
    }

    private void demandRange(int value, int least, int most) {
        if (value < least || value > most) {
            illegal++;
            throw new IllegalArgumentException("an argument is out of its range");
        }
    }

    private void demandWhistle(int whistle) {
        demandRange(whistle, 0, WHISTLES - 1);
    }

    private void demandSet(int corners) {
        demandRange(corners, 0, (1 << place.corners) - 1);
    }

    // ---- what the calls share

    private void openText(int n, int most) {
        demandRange(n, 0, Math.min(most, tape.filled));
        tape.open(n);
    }

    private int faultAnswer() {
        return tape.faultKind - FAULT_LESS;
    }

    private void layStreets() {
        if (streets.lay(place, story.present.fog)) {
            gather.forget();
        }
    }

    private void listen() {
        layStreets();
        listener.hear(streets, place, blownTune, heardTune);
    }

    /** A watch by a seed is walked in a scene of its own, so that nobody is moved. */
    private void dreamOf(int seed, int q, int nights) {
        dream.copyFrom(story.present);
        drawSeed = seed;
        for (int night = 0; night < nights; night++) {
            if (place.corners > 0) {
                dreamHalfNight(q);
                dreamHalfNight(q);
            }
            dream.endNight(place);
        }
    }

    private void dreamHalfNight(int q) {
        dream.blow(draw(WHISTLES), place, rule);
        if (draw(SIXTEENTHS) < q) {
            dream.turnFog(draw(place.corners));
        }
    }

    private int draw(int by) {
        drawSeed = drawSeed * SEED_TIMES + SEED_AND;
        return by > 0 ? (drawSeed >>> 16 & DRAWN_BITS) % by : 0;
    }

    /** The bottom is a power of two, so halving both is all that least terms need. */
    private static long leastTerms(long above, int bitsBelow, boolean wantAbove) {
        long top = above;
        long bottom = 1L << bitsBelow;
        for (int i = 0; i < bitsBelow && (top & 1) == 0; i++) {
            top >>= 1;
            bottom >>= 1;
        }
        return wantAbove ? top : bottom;
    }

    private static boolean isOne(int set) {
        return set != 0 && (set & (set - 1)) == 0;
    }

    /** The bytes that were fed, and the reading of a text at their front up to its first fault. */
    private static final class Tape {
        private static final int BLANK = 32;
        private static final int FEED_BYTES = 20;
        private static final int BEYOND_ALL_NUMBERS = 10000;

        final byte[] bytes = new byte[TAPE_BYTES];
        int filled = 0;
        int end = 0;
        int place = 0;
        int mark = 0;
        int faultKind = 0;
        int faultPlace = NONE;

        int add(int a, int b, int c, int d, int e) {
            if (filled + FEED_BYTES > TAPE_BYTES) {
                return NONE;
            }
            addNumber(a);
            addNumber(b);
            addNumber(c);
            addNumber(d);
            addNumber(e);
            return filled;
        }

        private void addNumber(int number) {
            for (int shift = 24; shift >= 0; shift -= 8) {
                if (filled >= 0 && filled < bytes.length) {
                    bytes[filled] = (byte) (number >> shift);
                    filled++;
                }
            }
        }

        /** The tape counts as empty from here on; its bytes stay until the next ones are fed. */
        void open(int n) {
            end = n;
            place = 0;
            mark = 0;
            faultKind = 0;
            faultPlace = NONE;
            filled = 0;
        }

        boolean isSound() {
            return faultKind == 0;
        }

        void refuse(int kind, int at) {
            if (faultKind == 0) {
                faultKind = kind;
                faultPlace = at;
            }
        }

        private int byteAt(int at) {
            return at >= 0 && at < end && at < bytes.length ? bytes[at] & 255 : NONE;
        }

        /** Behind a fault nothing is seen any more, so that every reader comes to its end. */
        int peek() {
            if (faultKind != 0) {
                return NONE;
            }
            int last = Math.min(end, bytes.length);
            for (int at = place; at < last && bytes[at] == BLANK; at++) {
                place = at + 1;
            }
            return place < last ? bytes[place] & 255 : NONE;
        }

        void pass() {
            place++;
        }

        boolean isAtEnd() {
            return peek() == NONE;
        }

        void readSign(int sign) {
            if (peek() == sign) {
                place++;
            } else {
                refuse(CANNOT_STAND, place);
            }
        }

        void readWord() {
            peek();
            mark = place;
            for (int i = 0; i < TAPE_BYTES && isSmallLetter(byteAt(place)); i++) {
                place++;
            }
        }

        boolean wordIs(String word) {
            if (faultKind != 0 || place - mark != word.length()) {
                return false;
            }
            for (int i = 0; i < word.length(); i++) {
                int at = mark + i;
                if (at < 0 || at >= bytes.length || bytes[at] != word.charAt(i)) {
                    return false;
                }
            }
            return true;
        }

        /** The number that stands next; NONE, with a fault, if it is none from least to most. */
        int readNumber(int least, int most) {
            if (!isDigit(peek())) {
                refuse(CANNOT_STAND, place);
                return NONE;
            }
            mark = place;
            int value = 0;
            for (int i = 0; i < TAPE_BYTES && isDigit(byteAt(place)); i++) {
                value = Math.min(value * 10 + byteAt(place) - '0', BEYOND_ALL_NUMBERS);
                place++;
            }
            if (value < least || value > most) {
                refuse(NO_SUCH_NUMBER, mark);
                return NONE;
            }
            return value;
        }

        static boolean isDigit(int sign) {
            return sign >= '0' && sign <= '9';
        }

        static boolean isSmallLetter(int sign) {
            return sign >= 'a' && sign <= 'z';
        }
    }

    /** What a town's text tells; nothing in it changes by work. */
    private static final class Town {
        private static final int UNKNOWN = 0;
        private static final int CORNER = 1;
        private static final int WAY = 2;
        private static final int MAN = 3;
        private static final int BREATH = 4;

        int corners = 0;
        int men = 0;
        int breath = FIRST_BREATH;
        final int[] bells = new int[MOST_CORNERS];
        final int[] ways = new int[WHISTLES * MOST_CORNERS];
        final int[] starts = new int[MOST_MEN];

        int bellOf(int corner) {
            return corner >= 0 && corner < bells.length ? bells[corner] : 0;
        }

        int leadsTo(int corner, int whistle) {
            int at = whistle * MOST_CORNERS + corner;
            return at >= 0 && at < ways.length ? ways[at] : 0;
        }

        int startOf(int man) {
            return man >= 0 && man < starts.length ? starts[man] : 0;
        }

        /** Where fog is when it has gone on by so many corners. */
        int drift(int fog, int nights) {
            if (corners <= 0) {
                return 0;
            }
            int by = nights % corners;
            return (fog << by | fog >> (corners - by)) & ((1 << corners) - 1);
        }

        boolean read(Tape tape) {
            corners = 0;
            men = 0;
            breath = FIRST_BREATH;
            for (int clause = 0; clause <= MOST_CLAUSES && !tape.isAtEnd(); clause++) {
                readClause(tape, clause >= MOST_CLAUSES);
                tape.readSign(';');
            }
            return tape.isSound();
        }

        private void readClause(Tape tape, boolean full) {
            tape.readWord();
            int kind = kindOf(tape);
            if (kind == UNKNOWN) {
                tape.refuse(CANNOT_STAND, tape.mark);
            } else if (full || isFullOf(kind)) {
                tape.refuse(TOO_MANY, tape.mark);
            } else if (kind == CORNER) {
                addCorner(tape.readNumber(0, MOST_BELL));
            } else if (kind == WAY) {
                readWay(tape);
            } else if (kind == MAN) {
                addMan(tape.readNumber(0, corners - 1));
            } else {
                breath = tape.readNumber(0, MOST_BREATH);
            }
        }

        private static int kindOf(Tape tape) {
            if (tape.wordIs("corner")) {
                return CORNER;
            }
            if (tape.wordIs("way")) {
                return WAY;
            }
            if (tape.wordIs("man")) {
                return MAN;
            }
            return tape.wordIs("breath") ? BREATH : UNKNOWN;
        }

        private boolean isFullOf(int kind) {
            return kind == CORNER && corners >= MOST_CORNERS || kind == MAN && men >= MOST_MEN;
        }

        private void addCorner(int bell) {
            if (corners >= bells.length) {
                return;
            }
            bells[corners] = bell;
            for (int whistle = 0; whistle < WHISTLES; whistle++) {
                ways[whistle * MOST_CORNERS + corners] = corners;
            }
            corners++;
        }

        private void readWay(Tape tape) {
            int whistle = tape.readNumber(0, WHISTLES - 1);
            int start = tape.readNumber(0, corners - 1);
            int goal = tape.readNumber(0, corners - 1);
            int at = whistle * MOST_CORNERS + start;
            if (tape.isSound() && at >= 0 && at < ways.length) {
                ways[at] = goal;
            }
        }

        private void addMan(int corner) {
            if (men < starts.length) {
                starts[men] = corner;
                men++;
            }
        }
    }

    /** What a whistle costs, kept with each sign behind its two sides so that it is worked out in one pass. */
    private static final class Law {
        private static final int NUMBER = 0;
        private static final int FACT = 1;
        private static final int ADD = 2;
        private static final int SUBTRACT = 3;
        private static final int MULTIPLY = 4;
        private static final int DIVIDE = 5;
        private static final int LEAVE = 6;
        private static final int LEAST = 7;
        private static final int MOST = 8;
        private static final int SAME = 2;
        private static final int FACTS = 7;
        private static final int MOST_NUMBER = 999;

        final int[] kinds = new int[LAW_BYTES];
        final int[] values = new int[LAW_BYTES];
        final int[] stack = new int[LAW_BYTES];
        final int[] facts = new int[FACTS];
        int size = 0;

        Law() {
            useCommon();
        }

        /** The law without one told: 1 + same. */
        void useCommon() {
            size = 0;
            put(NUMBER, 1);
            put(FACT, SAME);
            put(ADD, 0);
        }

        private void put(int kind, int value) {
            if (size >= 0 && size < kinds.length && size < values.length) {
                kinds[size] = kind;
                values[size] = value;
                size++;
            }
        }

        boolean read(Tape tape) {
            size = 0;
            readSum(tape, 0);
            if (!tape.isAtEnd()) {
                tape.refuse(CANNOT_STAND, tape.place);
            }
            return tape.isSound();
        }

        private void readSum(Tape tape, int open) {
            readProduct(tape, open);
            for (int i = 0; i < LAW_BYTES; i++) {
                int sign = tape.peek();
                if (sign != '+' && sign != '-') {
                    return;
                }
                tape.pass();
                readProduct(tape, open);
                put(sign == '+' ? ADD : SUBTRACT, 0);
            }
        }

        private void readProduct(Tape tape, int open) {
            readUnit(tape, open);
            for (int i = 0; i < LAW_BYTES; i++) {
                int sign = tape.peek();
                if (sign != '*' && sign != '/' && sign != '%') {
                    return;
                }
                tape.pass();
                readUnit(tape, open);
                put(sign == '*' ? MULTIPLY : sign == '/' ? DIVIDE : LEAVE, 0);
            }
        }

        private void readUnit(Tape tape, int open) {
            int sign = tape.peek();
            if (Tape.isDigit(sign)) {
                put(NUMBER, tape.readNumber(0, MOST_NUMBER));
            } else if (sign != '(') {
                readNamed(tape, open);
            } else if (open >= MOST_OPEN) {
                tape.refuse(TOO_MANY, tape.place);
            } else {
                tape.pass();
                readSum(tape, open + 1);
                tape.readSign(')');
            }
        }

        private void readNamed(Tape tape, int open) {
            tape.readWord();
            int fact = factOf(tape);
            boolean least = tape.wordIs("least");
            if (fact != NONE) {
                put(FACT, fact);
            } else if (!least && !tape.wordIs("most")) {
                tape.refuse(CANNOT_STAND, tape.mark);
            } else if (open >= MOST_OPEN) {
                tape.refuse(TOO_MANY, tape.mark);
            } else {
                tape.readSign('[');
                readSum(tape, open + 1);
                tape.readSign(',');
                readSum(tape, open + 1);
                tape.readSign(']');
                put(least ? LEAST : MOST, 0);
            }
        }

        /** The places of the facts are those of the parameters of price. */
        private static int factOf(Tape tape) {
            if (tape.wordIs("whistle")) {
                return 0;
            }
            if (tape.wordIs("blown")) {
                return 1;
            }
            if (tape.wordIs("same")) {
                return SAME;
            }
            if (tape.wordIs("fog")) {
                return 3;
            }
            if (tape.wordIs("men")) {
                return 4;
            }
            if (tape.wordIs("night")) {
                return 5;
            }
            return tape.wordIs("breath") ? 6 : NONE;
        }

        int price(int whistle, int blown, int same, int fog, int men, int night, int breath) {
            facts[0] = whistle;
            facts[1] = blown;
            facts[SAME] = same;
            facts[3] = fog;
            facts[4] = men;
            facts[5] = night;
            facts[6] = breath;
            return Math.max(0, Math.min(MOST_COST, workOut()));
        }

        private int workOut() {
            int top = 0;
            for (int i = 0; i < size && i < kinds.length && i < values.length; i++) {
                if (kinds[i] == NUMBER || kinds[i] == FACT) {
                    if (top < stack.length) {
                        stack[top] = kinds[i] == NUMBER ? values[i] : fact(values[i]);
                        top++;
                    }
                } else if (top >= 2 && top <= stack.length) {
                    top--;
                    stack[top - 1] = join(kinds[i], stack[top - 1], stack[top]);
                }
            }
            return stack[0];
        }

        private int fact(int at) {
            return at >= 0 && at < facts.length ? facts[at] : 0;
        }

        private static int join(int kind, int a, int b) {
            switch (kind) {
                case ADD: return a + b;
                case SUBTRACT: return a - b;
                case MULTIPLY: return a * b;
                case DIVIDE: return b == 0 ? 0 : a / b;
                case LEAVE: return b == 0 ? 0 : a % b;
                case LEAST: return a < b ? a : b;
                default: return a > b ? a : b;
            }
        }
    }

    /** The steps of a work in their order; each loop is an opening and a closing that know one another. */
    private static final class Steps {
        private static final int UNKNOWN = 0;
        private static final int BLOW = 1;
        private static final int FOG = 2;
        private static final int REST = 3;
        private static final int WALK = 4;
        private static final int NIGHT = 5;
        private static final int AGAIN = 6;
        private static final int CLOSE = 7;
        // 200 steps are begun at most, and each again among them closes 40 times at most
        private static final int MOST_TURNS = MOST_STEPS * (MOST_AGAIN + 2);

        final int[] kinds = new int[WORK_BYTES];
        final int[] firsts = new int[WORK_BYTES];
        final int[] seconds = new int[WORK_BYTES];
        final int[] left = new int[WORK_BYTES];
        int size = 0;
        int refused = 0;

        void forget() {
            refused = 0;
        }

        private int put(int kind, int first, int second) {
            if (size < 0 || size >= WORK_BYTES) {
                return NONE;
            }
            kinds[size] = kind;
            firsts[size] = first;
            seconds[size] = second;
            size++;
            return size - 1;
        }

        boolean read(Tape tape, Town town) {
            size = 0;
            readAll(tape, town, 0);
            return tape.isSound();
        }

        private void readAll(Tape tape, Town town, int open) {
            for (int i = 0; i < WORK_BYTES && tape.isSound(); i++) {
                int sign = tape.peek();
                if (open == 0 ? sign == NONE : sign == ']') {
                    return;
                }
                readStep(tape, town, open);
                tape.readSign(';');
            }
        }

        private void readStep(Tape tape, Town town, int open) {
            tape.readWord();
            switch (kindOf(tape)) {
                case BLOW:
                    put(BLOW, tape.readNumber(0, WHISTLES - 1), 0);
                    break;
                case FOG:
                    put(FOG, tape.readNumber(0, town.corners - 1), 0);
                    break;
                case REST:
                    put(REST, tape.readNumber(1, MOST_REST), 0);
                    break;
                case WALK:
                    readWalk(tape, town);
                    break;
                case NIGHT:
                    put(NIGHT, 0, 0);
                    break;
                case AGAIN:
                    readAgain(tape, town, open);
                    break;
                default:
                    tape.refuse(CANNOT_STAND, tape.mark);
                    break;
            }
        }

        private static int kindOf(Tape tape) {
            if (tape.wordIs("blow")) {
                return BLOW;
            }
            if (tape.wordIs("fog")) {
                return FOG;
            }
            if (tape.wordIs("rest")) {
                return REST;
            }
            if (tape.wordIs("walk")) {
                return WALK;
            }
            if (tape.wordIs("night")) {
                return NIGHT;
            }
            return tape.wordIs("again") ? AGAIN : UNKNOWN;
        }

        private void readWalk(Tape tape, Town town) {
            int man = tape.readNumber(0, town.men - 1);
            put(WALK, man, tape.readNumber(0, town.corners - 1));
        }

        private void readAgain(Tape tape, Town town, int open) {
            if (open >= MOST_OPEN) {
                tape.refuse(TOO_MANY, tape.mark);
                return;
            }
            int opening = put(AGAIN, tape.readNumber(0, MOST_AGAIN), 0);
            tape.readSign('[');
            readAll(tape, town, open + 1);
            tape.readSign(']');
            int closing = put(CLOSE, opening, 0);
            if (opening >= 0 && opening < WORK_BYTES) {
                seconds[opening] = closing;
            }
        }

        /** How many steps were done; how many were refused is kept until the next work, or forgotten. */
        int perform(Scene scene, Town town, Law law) {
            int begun = 0;
            int done = 0;
            int at = 0;
            refused = 0;
            for (int turn = 0; turn < MOST_TURNS && at >= 0 && at < size; turn++) {
                if (kinds[at] == CLOSE) {
                    at = behindClosing(at);
                    continue;
                }
                if (begun >= MOST_STEPS) {
                    return done;
                }
                begun++;
                if (kinds[at] == AGAIN) {
                    left[at] = firsts[at];
                    at = left[at] > 0 ? at + 1 : seconds[at] + 1;
                    continue;
                }
                if (takeStep(at, scene, town, law)) {
                    done++;
                } else {
                    refused++;
                }
                at++;
            }
            return done;
        }

        private int behindClosing(int at) {
            int opening = firsts[at];
            if (opening < 0 || opening >= WORK_BYTES) {
                return at + 1;
            }
            left[opening]--;
            return left[opening] > 0 ? opening + 1 : at + 1;
        }

        private boolean takeStep(int at, Scene scene, Town town, Law law) {
            switch (kinds[at]) {
                case BLOW: return scene.blow(firsts[at], town, law);
                case FOG: return scene.turnFog(firsts[at]);
                case REST: return scene.rest(firsts[at]);
                case WALK: return scene.walk(firsts[at], seconds[at]);
                default: return scene.endNightByWork(town);
            }
        }
    }

    /** A row of whistles or of bells. */
    private static final class Tune {
        final int[] notes = new int[MOST_NOTES];
        int size = 0;

        void clear() {
            size = 0;
        }

        int note(int at) {
            return at >= 0 && at < notes.length ? notes[at] : 0;
        }

        boolean read(Tape tape, int most) {
            size = 0;
            for (int i = 0; i <= MOST_NOTES && !tape.isAtEnd(); i++) {
                add(tape.readNumber(0, most), tape);
                tape.readSign(';');
            }
            return tape.isSound();
        }

        private void add(int note, Tape tape) {
            if (size >= notes.length) {
                tape.refuse(TOO_MANY, tape.mark);
            } else {
                notes[size] = note;
                size++;
            }
        }
    }

    /** All that work changes. */
    private static final class Scene {
        static final int FACTS = 4;
        // the places of these are the numbers by which a man's facts are asked
        private static final int PLACE = 0;
        private static final int BELL = 1;
        private static final int HEARD = 2;
        private static final int STAYED = 3;

        int breath = FIRST_BREATH;
        int night = 0;
        int fog = 0;
        int blown = 0;
        int latest = NONE;
        int same = 0;
        final int[] ofMen = new int[FACTS * MOST_MEN];

        void begin(Town town) {
            breath = town.breath;
            night = 0;
            fog = 0;
            blown = 0;
            latest = NONE;
            same = 0;
            for (int man = 0; man < MOST_MEN; man++) {
                setOfMan(man, PLACE, town.startOf(man));
                setOfMan(man, BELL, NONE);
                setOfMan(man, HEARD, 0);
                setOfMan(man, STAYED, 0);
            }
        }

        void copyFrom(Scene other) {
            breath = other.breath;
            night = other.night;
            fog = other.fog;
            blown = other.blown;
            latest = other.latest;
            same = other.same;
            for (int i = 0; i < FACTS * MOST_MEN; i++) {
                ofMen[i] = other.ofMen[i];
            }
        }

        int ofMan(int man, int what) {
            int at = man * FACTS + what;
            return at >= 0 && at < ofMen.length ? ofMen[at] : 0;
        }

        private void setOfMan(int man, int what, int value) {
            int at = man * FACTS + what;
            if (at >= 0 && at < ofMen.length) {
                ofMen[at] = value;
            }
        }

        boolean isInFog(int corner) {
            return (fog >> corner & 1) != 0;
        }

        int peopled(int men) {
            int set = 0;
            for (int man = 0; man < men; man++) {
                set |= 1 << ofMan(man, PLACE);
            }
            return set;
        }

        int menIn(int set, int men) {
            int who = 0;
            for (int man = 0; man < men; man++) {
                who |= (set >> ofMan(man, PLACE) & 1) << man;
            }
            return who;
        }

        /** Ten corners of three bits each hold all counts in one number, as there are five men at most. */
        int crowd(int men) {
            int counts = 0;
            int most = 0;
            for (int man = 0; man < men; man++) {
                int shift = 3 * ofMan(man, PLACE);
                counts += 1 << shift;
                most = Math.max(most, counts >> shift & 7);
            }
            return most;
        }

        int price(int whistle, int men, Law law) {
            int again = latest == whistle ? same : 0;
            return law.price(whistle, blown, again, Integer.bitCount(fog), crowd(men), night, breath);
        }

        boolean blow(int whistle, Town town, Law law) {
            int price = price(whistle, town.men, law);
            if (price > breath) {
                return false;
            }
            breath -= price;
            blown++;
            same = latest == whistle ? same + 1 : 1;
            latest = whistle;
            for (int man = 0; man < town.men; man++) {
                moveMan(man, whistle, town);
            }
            return true;
        }

        private void moveMan(int man, int whistle, Town town) {
            int corner = ofMan(man, PLACE);
            if (isInFog(corner)) {
                setOfMan(man, STAYED, ofMan(man, STAYED) + 1);
                return;
            }
            int goal = town.leadsTo(corner, whistle);
            setOfMan(man, PLACE, goal);
            setOfMan(man, BELL, town.bellOf(goal));
            setOfMan(man, HEARD, ofMan(man, HEARD) + 1);
        }

        boolean turnFog(int corner) {
            fog ^= 1 << corner;
            return true;
        }

        boolean rest(int more) {
            if (breath >= MOST_BREATH) {
                return false;
            }
            breath = Math.min(MOST_BREATH, breath + more);
            return true;
        }

        boolean walk(int man, int corner) {
            if (ofMan(man, PLACE) == corner) {
                return false;
            }
            setOfMan(man, PLACE, corner);
            return true;
        }

        boolean endNightByWork(Town town) {
            if (night >= LAST_NIGHT) {
                return false;
            }
            endNight(town);
            return true;
        }

        void endNight(Town town) {
            latest = NONE;
            same = 0;
            fog = town.drift(fog, 1);
            night++;
        }
    }

    /** The present, and how it was ahead of each work that can be undone. */
    private static final class Story {
        final Scene present = new Scene();
        final Scene[] earlier = new Scene[MOST_WORKS];
        int works = 0;

        Story() {
            for (int i = 0; i < earlier.length; i++) {
                earlier[i] = new Scene();
            }
        }

        void begin(Town town) {
            present.begin(town);
            works = 0;
        }

        void remember() {
            if (works >= 0 && works < earlier.length) {
                earlier[works].copyFrom(present);
                works++;
            }
        }

        boolean goBack() {
            if (works <= 0 || works > earlier.length) {
                return false;
            }
            works--;
            present.copyFrom(earlier[works]);
            return true;
        }

        void copyFrom(Story other) {
            present.copyFrom(other.present);
            works = other.works;
            for (int i = 0; i < works && i < MOST_WORKS; i++) {
                earlier[i].copyFrom(other.earlier[i]);
            }
        }
    }

    /** Where each whistle brings one in the fog of now. */
    private static final class Streets {
        // sets of corners are looked up in two halves, which keeps the rows short
        private static final int HALF_BITS = MOST_CORNERS / 2;
        private static final int HALF = 1 << HALF_BITS;

        int corners = 0;
        private int laidFog = NONE;
        private final int[] nexts = new int[WHISTLES * MOST_CORNERS];
        private final int[] lowHalves = new int[WHISTLES * HALF];
        private final int[] highHalves = new int[WHISTLES * HALF];
        private long[] weights = new long[MOST_CORNERS];
        private long[] spareWeights = new long[MOST_CORNERS];

        void forget() {
            laidFog = NONE;
        }

        /** Whether anything may have changed since they were laid last. */
        boolean lay(Town town, int fog) {
            if (fog == laidFog) {
                return false;
            }
            laidFog = fog;
            corners = town.corners;
            for (int whistle = 0; whistle < WHISTLES; whistle++) {
                for (int corner = 0; corner < MOST_CORNERS; corner++) {
                    boolean goes = corner < corners && (fog >> corner & 1) == 0;
                    nexts[whistle * MOST_CORNERS + corner] = goes ? town.leadsTo(corner, whistle) : corner;
                }
                fillHalf(lowHalves, whistle, 0);
                fillHalf(highHalves, whistle, HALF_BITS);
            }
            return true;
        }

        private void fillHalf(int[] halves, int whistle, int firstCorner) {
            for (int set = 0; set < HALF; set++) {
                int brought = 0;
                for (int bit = 0; bit < HALF_BITS; bit++) {
                    if ((set >> bit & 1) != 0) {
                        brought |= 1 << next(firstCorner + bit, whistle);
                    }
                }
                int at = whistle * HALF + set;
                if (at >= 0 && at < halves.length) {
                    halves[at] = brought;
                }
            }
        }

        int next(int corner, int whistle) {
            int at = whistle * MOST_CORNERS + corner;
            return at >= 0 && at < nexts.length ? nexts[at] : 0;
        }

        boolean isFoggy(int corner) {
            return (laidFog >> corner & 1) != 0;
        }

        /** Where those who are at any corner of a set are then, as a set. */
        int bring(int set, int whistle) {
            int low = whistle * HALF + (set & (HALF - 1));
            int high = whistle * HALF + (set >> HALF_BITS & (HALF - 1));
            if (low < 0 || high < 0 || low >= lowHalves.length || high >= highHalves.length) {
                return 0;
            }
            return lowHalves[low] | highHalves[high];
        }

        boolean staysAt(int corner) {
            for (int whistle = 0; whistle < WHISTLES; whistle++) {
                if (next(corner, whistle) != corner) {
                    return false;
                }
            }
            return true;
        }

        int afterTune(int corner, Tune tune) {
            int at = corner;
            for (int i = 0; i < tune.size; i++) {
                at = next(at, tune.note(i));
            }
            return at;
        }

        void startWeights(int corner) {
            Arrays.fill(weights, 0L);
            addWeight(weights, corner, 1L);
        }

        long weightOf(int corner) {
            return corner >= 0 && corner < weights.length ? weights[corner] : 0L;
        }

        private static void addWeight(long[] row, int corner, long more) {
            if (corner >= 0 && corner < row.length) {
                row[corner] += more;
            }
        }

        void spreadByAll() {
            Arrays.fill(spareWeights, 0L);
            for (int corner = 0; corner < corners; corner++) {
                for (int whistle = 0; whistle < WHISTLES; whistle++) {
                    addWeight(spareWeights, next(corner, whistle), weightOf(corner));
                }
            }
            swapWeights();
        }

        void spreadByChance(int whistle, int lost) {
            Arrays.fill(spareWeights, 0L);
            for (int corner = 0; corner < corners; corner++) {
                addWeight(spareWeights, corner, weightOf(corner) * lost);
                addWeight(spareWeights, next(corner, whistle), weightOf(corner) * (SIXTEENTHS - lost));
            }
            swapWeights();
        }

        private void swapWeights() {
            long[] filled = spareWeights;
            spareWeights = weights;
            weights = filled;
        }
    }

    /** Searches sets of corners for rows of whistles that bring all to one. */
    private static final class Gather {
        static final int ANY_CORNER = 0;

        private final int[] queue = new int[SETS];
        private final int[] spent = new int[SETS];
        private final int[] before = new int[SETS];
        private final int[] by = new int[SETS];
        private final int[] heads = new int[WHISTLES];
        final int[] prices = new int[WHISTLES];
        private int filled = 0;
        private int soughtFrom = NONE;
        private int soughtAim = NONE;
        private int found = NONE;

        void forget() {
            soughtFrom = NONE;
            soughtAim = NONE;
            found = NONE;
        }

        /** The latest search is kept, as a row is mostly asked whistle by whistle. */
        void find(Streets streets, int from, int aim) {
            if (from == soughtFrom && aim == soughtAim) {
                return;
            }
            soughtFrom = from;
            soughtAim = aim;
            found = search(streets, from, aim);
        }

        int length() {
            return found >= 0 && found < SETS ? spent[found] : NONE;
        }

        int meeting() {
            return found > 0 ? Integer.bitCount(found - 1) : NONE;
        }

        int whistle(int k) {
            int many = length();
            if (k < 0 || k >= many) {
                return NONE;
            }
            int set = found;
            for (int i = many - 1; i > k && set >= 0 && set < SETS; i--) {
                set = before[set];
            }
            return set >= 0 && set < SETS ? by[set] : NONE;
        }

        private static boolean isAim(int set, int aim) {
            return aim == ANY_CORNER ? isOne(set) : set == aim;
        }

        private void start(int from) {
            Arrays.fill(spent, NONE);
            filled = 0;
            add(from, 0);
        }

        private void add(int set, int spentByNow) {
            if (set >= 0 && set < SETS && filled < SETS) {
                spent[set] = spentByNow;
                queue[filled] = set;
                filled++;
            }
        }

        private boolean isNew(int set) {
            return set >= 0 && set < SETS && spent[set] == NONE;
        }

        /**
         * Goes level by level, whistles in their order: the first row by which a set is come to
         * is the first one of its fewest.
         */
        private int search(Streets streets, int from, int aim) {
            start(from);
            if (isAim(from, aim)) {
                return from;
            }
            for (int head = 0; head < filled && head < SETS; head++) {
                int set = queue[head];
                for (int whistle = 0; whistle < WHISTLES; whistle++) {
                    int then = streets.bring(set, whistle);
                    if (!isNew(then)) {
                        continue;
                    }
                    before[then] = set;
                    by[then] = whistle;
                    add(then, spent[set] + 1);
                    if (isAim(then, aim)) {
                        return then;
                    }
                }
            }
            return NONE;
        }

        /**
         * Sets come to the queue by what is spent. For each whistle those behind its head are still
         * to be left by it, the head cheapest; so the cheapest next one is behind one of the heads.
         */
        int cheapest(Streets streets, int from) {
            forget();
            start(from);
            Arrays.fill(heads, 0);
            if (isOne(from)) {
                return 0;
            }
            for (int turn = 0; turn < SETS * WHISTLES; turn++) {
                int whistle = cheapestWhistle();
                if (whistle < 0 || whistle >= WHISTLES) {
                    return NONE;
                }
                int price = priceBehindHead(whistle);
                int then = streets.bring(queue[heads[whistle]], whistle);
                heads[whistle]++;
                if (isNew(then)) {
                    add(then, price);
                    if (isOne(then)) {
                        return price;
                    }
                }
            }
            return NONE;
        }

        private int cheapestWhistle() {
            int best = NONE;
            int bestPrice = Integer.MAX_VALUE;
            for (int whistle = 0; whistle < WHISTLES; whistle++) {
                int price = priceBehindHead(whistle);
                if (price < bestPrice) {
                    best = whistle;
                    bestPrice = price;
                }
            }
            return best;
        }

        private int priceBehindHead(int whistle) {
            int head = heads[whistle];
            if (head < 0 || head >= filled || head >= SETS) {
                return Integer.MAX_VALUE;
            }
            return spent[queue[head]] + prices[whistle];
        }
    }

    /** Marks of each two corners, whichever of the two is named first. */
    private static final class Pairs {
        private static final int PAIRS = MOST_CORNERS * MOST_CORNERS;
        private static final int OPEN = 0;
        private static final int FIRST_WINS = 1;
        private static final int SECOND_WINS = 2;

        private final int[] marks = new int[PAIRS];

        int markOf(int corner, int other) {
            int at = corner * MOST_CORNERS + other;
            return at >= 0 && at < marks.length ? marks[at] : NONE;
        }

        private void setBoth(int corner, int other, int mark) {
            setMark(corner, other, mark);
            setMark(other, corner, mark);
        }

        private void setMark(int corner, int other, int mark) {
            int at = corner * MOST_CORNERS + other;
            if (at >= 0 && at < marks.length) {
                marks[at] = mark;
            }
        }

        int unmarkedWith(int corner, int corners) {
            int set = 0;
            for (int other = 0; other < corners; other++) {
                if (markOf(corner, other) == NONE) {
                    set |= 1 << other;
                }
            }
            return set;
        }

        private int markBehind(Streets streets, int corner, int other, int whistle) {
            return markOf(streets.next(corner, whistle), streets.next(other, whistle));
        }

        /** A mark is the fewest whistles that tell the two; NONE: none do. */
        void tellApart(Streets streets, Town town) {
            for (int corner = 0; corner < streets.corners; corner++) {
                for (int other = 0; other <= corner; other++) {
                    boolean unlike = town.bellOf(corner) != town.bellOf(other);
                    setBoth(corner, other, unlike ? 0 : NONE);
                }
            }
            boolean changed = true;
            for (int whistles = 1; whistles <= PAIRS && changed; whistles++) {
                changed = tellBy(streets, whistles);
            }
        }

        private boolean tellBy(Streets streets, int whistles) {
            boolean changed = false;
            for (int corner = 0; corner < streets.corners; corner++) {
                for (int other = 0; other <= corner; other++) {
                    if (markOf(corner, other) == NONE && leadsToMark(streets, corner, other, whistles - 1)) {
                        setBoth(corner, other, whistles);
                        changed = true;
                    }
                }
            }
            return changed;
        }

        private boolean leadsToMark(Streets streets, int corner, int other, int mark) {
            for (int whistle = 0; whistle < WHISTLES; whistle++) {
                if (markBehind(streets, corner, other, whistle) == mark) {
                    return true;
                }
            }
            return false;
        }

        private boolean allLeadToMark(Streets streets, int corner, int other, int mark) {
            for (int whistle = 0; whistle < WHISTLES; whistle++) {
                if (markBehind(streets, corner, other, whistle) != mark) {
                    return false;
                }
            }
            return true;
        }

        /** A mark is who wins where one is to blow; two at one corner: the other one has won. */
        void playTurns(Streets streets) {
            for (int corner = 0; corner < streets.corners; corner++) {
                for (int other = 0; other <= corner; other++) {
                    setBoth(corner, other, corner == other ? SECOND_WINS : OPEN);
                }
            }
            boolean changed = true;
            for (int round = 0; round <= PAIRS && changed; round++) {
                changed = settleTurns(streets);
            }
        }

        private boolean settleTurns(Streets streets) {
            boolean changed = false;
            for (int corner = 0; corner < streets.corners; corner++) {
                for (int other = 0; other <= corner; other++) {
                    if (markOf(corner, other) == OPEN) {
                        int mark = winner(streets, corner, other);
                        setBoth(corner, other, mark);
                        changed = changed || mark != OPEN;
                    }
                }
            }
            return changed;
        }

        private int winner(Streets streets, int corner, int other) {
            if (leadsToMark(streets, corner, other, SECOND_WINS)) {
                return FIRST_WINS;
            }
            return allLeadToMark(streets, corner, other, FIRST_WINS) ? SECOND_WINS : OPEN;
        }
    }

    /** One who hears bells and does not know where he was. */
    private static final class Listener {
        private static final int NO_BELL = MOST_BELL + 1;

        // by the corner at first: where he is then; NONE: he would have heard something else
        private final int[] ends = new int[MOST_CORNERS];
        private final int[] leftBy = new int[NO_BELL + 1];
        private final int[] firstTimes = new int[MOST_CORNERS];
        int bestWhistle = NONE;
        int leastLeft = NONE;

        void hear(Streets streets, Town town, Tune blown, Tune heard) {
            for (int corner = 0; corner < town.corners && corner < ends.length; corner++) {
                ends[corner] = endOf(corner, streets, town, blown, heard);
            }
        }

        private static int endOf(int corner, Streets streets, Town town, Tune blown, Tune heard) {
            int at = corner;
            int both = Math.min(blown.size, heard.size);
            for (int i = 0; i < both; i++) {
                if (streets.isFoggy(at)) {
                    return NONE;
                }
                at = streets.next(at, blown.note(i));
                if (town.bellOf(at) != heard.note(i)) {
                    return NONE;
                }
            }
            return at;
        }

        int fitting(int corners) {
            int set = 0;
            for (int corner = 0; corner < corners && corner < ends.length; corner++) {
                if (ends[corner] != NONE) {
                    set |= 1 << corner;
                }
            }
            return set;
        }

        int endings(int corners) {
            int set = 0;
            for (int corner = 0; corner < corners && corner < ends.length; corner++) {
                if (ends[corner] != NONE) {
                    set |= 1 << ends[corner];
                }
            }
            return set;
        }

        void chooseWhistle(Streets streets, Town town) {
            bestWhistle = NONE;
            leastLeft = Integer.MAX_VALUE;
            for (int whistle = 0; whistle < WHISTLES; whistle++) {
                int left = mostLeft(streets, town, whistle);
                if (left < leastLeft) {
                    leastLeft = left;
                    bestWhistle = whistle;
                }
            }
        }

        private int mostLeft(Streets streets, Town town, int whistle) {
            Arrays.fill(leftBy, 0);
            int most = 0;
            for (int corner = 0; corner < town.corners && corner < ends.length; corner++) {
                if (ends[corner] != NONE) {
                    int bell = bellBehind(streets, town, ends[corner], whistle);
                    leftBy[bell]++;
                    most = Math.max(most, leftBy[bell]);
                }
            }
            return most;
        }

        private static int bellBehind(Streets streets, Town town, int corner, int whistle) {
            if (streets.isFoggy(corner)) {
                return NO_BELL;
            }
            int bell = town.bellOf(streets.next(corner, whistle));
            return bell >= 0 && bell < NO_BELL ? bell : NO_BELL;
        }

        /** Behind how many tunes he is where he was before; or how many lie between. */
        int roundOf(Streets streets, Tune tune, int corner, boolean wantFirst) {
            Arrays.fill(firstTimes, NONE);
            int at = corner;
            for (int time = 0; time <= MOST_CORNERS && at >= 0 && at < firstTimes.length; time++) {
                if (firstTimes[at] != NONE) {
                    return wantFirst ? time : time - firstTimes[at];
                }
                firstTimes[at] = time;
                at = streets.afterTune(at, tune);
            }
            return NONE;
        }
    }
}
