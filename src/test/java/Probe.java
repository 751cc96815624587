import java.util.NoSuchElementException;

/** What the tests share: texts on the tape, answers that are due, calls that are refused. */
final class Probe {
    interface Call {
        long answer();
    }

    /** What a call is taken to answer if it throws one of the two exceptions of the document. */
    static final long MISSING = Long.MIN_VALUE;
    static final long ILLEGAL = Long.MIN_VALUE + 1;

    private int asked = 0;
    private int wrong = 0;

    static long answerOf(Call call) {
        try {
            return call.answer();
        } catch (NoSuchElementException e) {
            return e.getClass() == NoSuchElementException.class ? MISSING : MISSING + 2;
        } catch (IllegalArgumentException e) {
            return e.getClass() == IllegalArgumentException.class ? ILLEGAL : MISSING + 3;
        } catch (RuntimeException e) {
            System.out.println("the machine threw: " + e);
            return MISSING + 4;
        }
    }

    static String show(long answer) {
        if (answer == MISSING) {
            return "throws.NoSuchElementException";
        }
        return answer == ILLEGAL ? "throws.IllegalArgumentException" : Long.toString(answer);
    }

    void due(String what, long want, Call call) {
        long got = answerOf(call);
        asked++;
        if (got != want) {
            wrong++;
            System.out.println(what + " answered " + show(got) + ", due is " + show(want));
        }
    }

    /** Puts a text on the tape, filled up with zeros behind it; whether the tape took all of it. */
    static boolean put(FogWatch x, String text) {
        boolean taken = true;
        for (int at = 0; at < text.length(); at += 20) {
            int[] five = new int[5];
            for (int i = 0; i < 20; i++) {
                int sign = at + i < text.length() ? text.charAt(at + i) & 255 : 0;
                five[i / 4] = five[i / 4] << 8 | sign;
            }
            taken &= x.feed(five[0], five[1], five[2], five[3], five[4]) != FogWatch.NONE;
        }
        return taken;
    }

    static int town(FogWatch x, String text) {
        put(x, text);
        return x.town(text.length());
    }

    static int law(FogWatch x, String text) {
        put(x, text);
        return x.law(text.length());
    }

    static int work(FogWatch x, String text) {
        put(x, text);
        return x.work(text.length());
    }

    static int song(FogWatch x, String text) {
        put(x, text);
        return x.song(text.length());
    }

    static int book(FogWatch x, String text) {
        put(x, text);
        return x.book(text.length());
    }

    static FogWatch in(String town) {
        FogWatch x = new FogWatch();
        int corners = town(x, town);
        if (corners < 0) {
            throw new IllegalStateException("a test's own town has a fault: " + town);
        }
        return x;
    }

    void close(String name) {
        System.out.println(name + ": " + asked + " answers, " + wrong + " of them not as due");
        if (wrong != 0 || asked == 0) {
            System.exit(1);
        }
    }
}
