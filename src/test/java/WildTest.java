import java.util.NoSuchElementException;

/** Any calls with any arguments in any state throw nothing but what the document names, and only there. */
public final class WildTest {
    private static final int[] EDGES = {Integer.MIN_VALUE, -2, -1, 0, 1, 2, 3, 4, 5, 6, 7, 8, 9, 11, 12, 13, 60, 61,
        100, 999, 1000, 4095, 4096, 20000, Integer.MAX_VALUE};
    private static final String[] WORDS = {"person", "thing", "owes", "law", "within", "sand", "plain", "least",
        "fewest", "aim", "wait", "wet", "to", "giver", "anyone", ";", ";", " ", "\n", "0", "1", "5", "99", "12345", "?"};
    private static final String[] LINES = {"person plain;", "person sand 5 least;", "person aim 0;", "person fewest;",
        "thing 3 5 0;", "thing 1 2 1 wet;", "thing 2 9 0;", "owes 0 3;", "owes 1 2 to 0;", "law anyone;", "within 1;"};
    private static long seed = 7;

    public static void main(String[] args) {
        for (int run = 0; run < 400; run++) {
            HeavyGifts x = new HeavyGifts();
            for (int call = 0; call < 200; call++) {
                oneCall(x, below(27));
            }
        }
        Check.end();
    }

    private static int below(int n) {
        seed = seed * 6364136223846793005L + 1442695040888963407L;
        return (int) ((seed >>> 33) % n);
    }

    private static int any() {
        return below(3) > 0 ? below(4) : EDGES[below(EDGES.length)];
    }

    private static void oneCall(HeavyGifts x, int which) {
        int a = any();
        int b = any();
        int c = any();
        int d = any();
        switch (which) {
            case 0, 1, 2 -> {
                String text = text();
                may("town", "I", () -> Check.tell(x, text));
            }
            case 3 -> may("town", "I", () -> x.town(a));
            case 4 -> may("count", "N", () -> x.count(a));
            case 5 -> may("person", "N", () -> x.person(a, b));
            case 6 -> may("thing", "N", () -> x.thing(a, b));
            case 7 -> may("give", "", () -> x.give(a, b, c, d));
            case 8 -> may("judge", "", () -> x.judge(a, b, c, d));
            case 9 -> may("undo", "", x::undo);
            case 10 -> may("gift", "N", () -> x.gift(a, b));
            case 11 -> may("sets", "N", () -> x.sets(a));
            case 12 -> may("choice", "N", () -> x.choice(a, b));
            case 13 -> may("gap", "N", () -> x.gap(a));
            case 14 -> may("week", "N", () -> x.week(a));
            case 15 -> may("order", "N", () -> x.order(a));
            case 16 -> may("get", "N", () -> x.get(a, b));
            case 17 -> may("cut", "N", () -> x.cut(a, b));
            case 18 -> may("keep", "NI", () -> x.keep(a, b));
            case 19 -> may("fewest", "I", () -> x.fewest(a));
            case 20 -> may("answers", "NI", () -> x.answers(a, b, c > 0));
            case 21 -> may("round", "N", () -> x.round(a, b));
            case 22 -> may("days", "I", () -> x.days(a));
            case 23 -> may("still", "", x::still);
            case 24 -> may("restore", "", () -> x.restore() ? 1 : 0);
            case 25 -> x.image();
            default -> may("feed", "", () -> x.feed(a, b, c, d, a));
        }
    }

    private static String text() {
        StringBuilder b = new StringBuilder();
        if (below(4) > 0) {
            b.append("person plain;person wait 2;");
            for (int i = below(20); i > 0; i--) {
                b.append(LINES[below(LINES.length)]);
            }
            return b.toString();
        }
        for (int i = below(60); i > 0; i--) {
            b.append(WORDS[below(WORDS.length)]).append(below(3) > 0 ? " " : "");
        }
        return b.toString();
    }

    private static void may(String name, String thrown, Check.Call call) {
        boolean fine = true;
        try {
            call.run();
        } catch (NoSuchElementException e) {
            fine = thrown.contains("N");
        } catch (IllegalArgumentException e) {
            fine = thrown.contains("I");
        } catch (RuntimeException e) {
            fine = false;
        }
        boolean asDue = fine;
        Check.same(name + " throws only what it may", 1, () -> asDue ? 1 : 0);
    }
}
