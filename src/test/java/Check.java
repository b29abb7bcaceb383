import java.nio.charset.StandardCharsets;
import java.util.NoSuchElementException;

/** Small helpers of all tests: compares answers, counts the wrong ones, feeds texts. */
final class Check {
    interface Call {
        long run();
    }

    static final int NO_SUCH = -1001;
    static final int ILLEGAL = -1002;
    static final int OTHER_THROW = -1003;

    private static int wrong = 0;
    private static String sentence = "";

    private Check() {
    }

    /** The sentence of the document that the checks behind it are for: told with each wrong answer. */
    static void sentence(String words) {
        sentence = words;
    }

    /** What a call answers, or a number of its own for each exception. */
    static long answer(Call call) {
        try {
            return call.run();
        } catch (NoSuchElementException e) {
            return NO_SUCH;
        } catch (IllegalArgumentException e) {
            return ILLEGAL;
        } catch (RuntimeException e) {
            System.out.println("thrown: " + e);
            return OTHER_THROW;
        }
    }

    static void same(String what, long due, Call call) {
        long got = answer(call);
        if (got != due) {
            wrong++;
            System.out.println(what + " answered " + got + ", due is " + due);
            if (!sentence.isEmpty()) {
                System.out.println("    the document: " + sentence);
            }
        }
    }

    static void noSuch(String what, Call call) {
        same(what, NO_SUCH, call);
    }

    static void illegal(String what, Call call) {
        same(what, ILLEGAL, call);
    }

    static int wrongOnes() {
        return wrong;
    }

    static void end() {
        System.out.println(wrong == 0 ? "as due" : wrong + " wrong");
        if (wrong != 0) {
            System.exit(1);
        }
    }

    /** Feeds a text behind the tape, in whole rows of twenty, the last one filled up with blanks. */
    static void feed(HeavyGifts x, String text) {
        byte[] bytes = text.getBytes(StandardCharsets.ISO_8859_1);
        for (int at = 0; at < bytes.length; at += 20) {
            int[] n = new int[5];
            for (int i = 0; i < 20; i++) {
                int b = at + i < bytes.length ? bytes[at + i] & 255 : ' ';
                n[i / 4] = n[i / 4] << 8 | b;
            }
            x.feed(n[0], n[1], n[2], n[3], n[4]);
        }
    }

    static int tell(HeavyGifts x, String text) {
        feed(x, text);
        return x.town(text.length());
    }

    /** A new object with a town that must have no fault. */
    static HeavyGifts town(String text) {
        HeavyGifts x = new HeavyGifts();
        same("town of '" + text + "'", 0, () -> tell(x, text));
        return x;
    }
}
