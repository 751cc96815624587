import java.util.NoSuchElementException;

/** What the tests share: texts on the tape, answers that are due, calls that are refused. */
final class Probe {
    interface Call {
        long answer();
    }

    /** A call told ahead of the object it is made on, so that it can be made on several alike ones. */
    interface Ask {
        long of(FogWatch x);
    }

    /** How an object is brought to where a test begins. */
    interface Maker {
        FogWatch make();
    }

    /** The texts, by the calls that read them. */
    enum Text { TOWN, LAW, WORK, SONG, BOOK }

    /** What a call is taken to answer if it throws one of the two exceptions of the document. */
    static final long MISSING = Long.MIN_VALUE;
    static final long ILLEGAL = Long.MIN_VALUE + 1;

    private static final int NONE = FogWatch.NONE;

    private int asked = 0;
    private int wrong = 0;

    static long answerOf(Call call) {
        try {
            return call.answer();
        } catch (NoSuchElementException e) {
            return e.getClass() == NoSuchElementException.class ? MISSING : MISSING + 2;
        } catch (IllegalArgumentException e) {
            return e.getClass() == IllegalArgumentException.class ? ILLEGAL : MISSING + 3;
        } catch (RuntimeException e) {
            System.out.println("the machine threw: " + e);
            return MISSING + 4;
        }
    }

    static String show(long answer) {
        if (answer == MISSING) {
            return "throws.NoSuchElementException";
        }
        return answer == ILLEGAL ? "throws.IllegalArgumentException" : Long.toString(answer);
    }

    void due(String what, long want, Call call) {
        long got = answerOf(call);
        asked++;
        if (got != want) {
            wrong++;
            System.out.println(what + " answered " + show(got) + ", due is " + show(want));
        }
    }

    /** Puts a text on the tape, filled up with zeros behind it; whether the tape took all of it. */
    static boolean put(FogWatch x, String text) {
        boolean taken = true;
        for (int at = 0; at < text.length(); at += 20) {
            int[] five = new int[5];
            for (int i = 0; i < 20; i++) {
                int sign = at + i < text.length() ? text.charAt(at + i) & 255 : 0;
                five[i / 4] = five[i / 4] << 8 | sign;
            }
            taken &= x.feed(five[0], five[1], five[2], five[3], five[4]) != FogWatch.NONE;
        }
        return taken;
    }

    static int read(FogWatch x, Text kind, int n) {
        switch (kind) {
            case TOWN: return x.town(n);
            case LAW: return x.law(n);
            case WORK: return x.work(n);
            case SONG: return x.song(n);
            default: return x.book(n);
        }
    }

    static int tell(FogWatch x, Text kind, String text) {
        put(x, text);
        return read(x, kind, text.length());
    }

    static int town(FogWatch x, String text) {
        return tell(x, Text.TOWN, text);
    }

    static int law(FogWatch x, String text) {
        return tell(x, Text.LAW, text);
    }

    static int work(FogWatch x, String text) {
        return tell(x, Text.WORK, text);
    }

    static int song(FogWatch x, String text) {
        return tell(x, Text.SONG, text);
    }

    static int book(FogWatch x, String text) {
        return tell(x, Text.BOOK, text);
    }

    static FogWatch in(String town) {
        FogWatch x = new FogWatch();
        int corners = town(x, town);
        if (corners < 0) {
            throw new IllegalStateException("a test's own town has a fault: " + town);
        }
        return x;
    }

    static String times(String text, int many) {
        StringBuilder all = new StringBuilder();
        for (int i = 0; i < many; i++) {
            all.append(text);
        }
        return all.toString();
    }

    static String blanks(int many) {
        return times(" ", many);
    }

    /** A text is read in a town: its answer, its fault's place, an empty tape; with a fault all stays. */
    void dueText(Text kind, String town, String text, long want, int place) {
        String name = kind + " \"" + text + "\"";
        FogWatch x = in(town);
        due(name, want, () -> tell(x, kind, text));
        due("fault of " + name, place, x::fault);
        due("tape behind " + name, 0, () -> x.count(1));
        if (want < 0) {
            dueSame("all stays behind " + name, wholeOf(in(town)), wholeOf(x));
        }
    }

    void dueSame(String what, String want, String got) {
        asked++;
        if (!want.equals(got)) {
            wrong++;
            System.out.println(what + ": was " + want + "\n  is  " + got);
        }
    }

    /** The call answers or throws this, is counted once if it throws, and changes nothing else. */
    void dueKept(String what, long want, Maker maker, Ask ask) {
        FogWatch x = maker.make();
        int fault = x.fault();
        due(what, want, () -> ask.of(x));
        due("no such element behind " + what, want == MISSING ? 1 : 0, () -> x.status(0));
        due("illegal argument behind " + what, want == ILLEGAL ? 1 : 0, () -> x.status(1));
        due("fault behind " + what, fault, x::fault);
        dueSame("all stays behind " + what, wholeOf(maker.make()), wholeOf(x));
    }

    /** All that work changes. */
    static String sceneOf(FogWatch x) {
        StringBuilder all = new StringBuilder("[");
        for (int what = 1; what <= 7; what++) {
            all.append(x.told(what)).append(' ');
        }
        int men = x.told(1);
        for (int man = 0; man < men; man++) {
            for (int what = 0; what <= 3; what++) {
                all.append(x.man(man, what)).append(what == 3 ? "; " : " ");
            }
        }
        int latest = x.told(6);
        return all.append(latest == NONE ? 0 : x.cost(latest)).append(']').toString();
    }

    private static String townOf(FogWatch x) {
        StringBuilder all = new StringBuilder();
        for (int corner = 0; corner < x.told(0); corner++) {
            all.append(x.corner(corner, 0)).append(':');
            for (int whistle = 0; whistle < 4; whistle++) {
                all.append(x.way(corner, whistle)).append(whistle == 3 ? "; " : " ");
            }
        }
        return all.toString();
    }

    /** Town, law, song, book, scene, works, images and tape; the object is used up by it. */
    static String wholeOf(FogWatch x) {
        StringBuilder all = new StringBuilder(townOf(x));
        all.append("law ").append(x.would(3, 7, 5, 4, 2, 11, 13)).append(' ').append(x.would(1, 2, 3, 4, 5, 6, 8));
        all.append(" song ").append(x.told(8));
        for (int corner = 0; corner < x.told(0); corner++) {
            all.append(' ').append(x.goes(1 << corner));
        }
        all.append(" book ").append(x.told(9)).append(' ').append(x.fits()).append(' ').append(x.now());
        all.append(" refused ").append(x.told(10)).append(' ').append(sceneOf(x));
        for (int images = x.count(0); images >= 0; images--) {
            for (int works = x.count(2); works > 0; works--) {
                all.append(" undo ").append(x.undo()).append(sceneOf(x));
            }
            if (images > 0) {
                all.append(" restore ").append(x.restore()).append(sceneOf(x));
            }
        }
        int bytes = x.count(1);
        all.append(" tape ").append(bytes).append(" read ").append(x.town(bytes)).append(' ').append(x.fault());
        return all.toString();
    }

    void close(String name) {
        System.out.println(name + ": " + asked + " answers, " + wrong + " of them not as due");
        if (wrong != 0 || asked == 0) {
            System.exit(1);
        }
    }
}
