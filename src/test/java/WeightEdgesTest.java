/** The sentences of the terms' fourth part and of promises 19 to 21 that name an edge: a test for each of them. */
public final class WeightEdgesTest {
    private static final int[] NO_N = {0, -1, 1000, 1001, Integer.MIN_VALUE, Integer.MAX_VALUE};

    public static void main(String[] args) {
        twice();
        keepThrowsByI();
        keepThrowsByN();
        fewestAndLeast();
        fewestNone();
        fewestByWeightsNow();
        fewestThrows();
        toTheDrachm();
        withAndWithoutSand();
        answersThrows();
        Check.end();
    }

    private static void keep(int n, int... weights) {
        HeavyGifts x = new HeavyGifts();
        Check.same("how many for " + n, weights.length, () -> x.keep(n, HeavyGifts.NONE));
        for (int i = 0; i < weights.length; i++) {
            int at = i;
            Check.same("keep(" + n + ", " + i + ")", weights[i], () -> x.keep(n, at));
        }
        Check.noSuch("no more for " + n, () -> x.keep(n, weights.length));
    }

    private static void twice() {
        Check.sentence("1, then always twice, as long as all together are less than n, the last one as much as"
                + " is wanting");
        keep(1, 1);
        keep(2, 1, 1);
        keep(3, 1, 2);
        keep(4, 1, 2, 1);
        keep(6, 1, 2, 3);
        keep(7, 1, 2, 4);
        keep(8, 1, 2, 4, 1);
        keep(511, 1, 2, 4, 8, 16, 32, 64, 128, 256);
        keep(512, 1, 2, 4, 8, 16, 32, 64, 128, 256, 1);
        keep(998, 1, 2, 4, 8, 16, 32, 64, 128, 256, 487);
        keep(999, 1, 2, 4, 8, 16, 32, 64, 128, 256, 488);
    }

    private static void keepThrowsByI() {
        Check.sentence("Promise 19: how many weights (i NONE), the i-th. NoSuchElementException: there is none.");
        for (int i : new int[] {-2, 4, 10, 11, 31, 32, Integer.MIN_VALUE, Integer.MAX_VALUE}) {
            Twins.changesNothing("keep(10, " + i + ")", Twins::rich, Check.NO_SUCH, x -> x.keep(10, i));
        }
        Twins.changesNothing("keep(10, 3)", Twins::rich, 3, x -> x.keep(10, 3));
        Twins.changesNothing("keep(10, NONE)", Twins::rich, 4, x -> x.keep(10, -1));
        Check.noSuch("the 11th", () -> new HeavyGifts().keep(999, 10));
    }

    private static void keepThrowsByN() {
        Check.sentence("Promise 19: IllegalArgumentException (ahead): n.");
        for (int n : NO_N) {
            Twins.changesNothing("keep(" + n + ", NONE)", Twins::rich, Check.ILLEGAL, x -> x.keep(n, -1));
            Twins.changesNothing("keep(" + n + ", -2)", Twins::rich, Check.ILLEGAL, x -> x.keep(n, -2));
            Twins.changesNothing("keep(" + n + ", 99)", Twins::rich, Check.ILLEGAL, x -> x.keep(n, 99));
        }
    }

    private static void fewest(int due, int n, String things) {
        HeavyGifts x = Check.town("person plain;person plain;" + things);
        Check.same("fewest(" + n + ") of " + things, due, () -> x.fewest(n));
    }

    private static void fewestAndLeast() {
        Check.sentence("FROM THINGS of the TOWN (by their WEIGHTS now, whoever HAS them): the fewest by which all"
                + " weights 1 to n can be made, of as few the least bits.");
        fewest(1, 1, "thing 1 1 0;");
        fewest(3, 3, "thing 2 1 0;thing 1 1 0;");
        fewest(15, 15, "thing 8 1 0;thing 4 1 0;thing 2 1 0;thing 1 1 0;");
        fewest(2, 1, "thing 2 1 0;thing 1 1 1;thing 1 1 0;");
        fewest(6, 2, "thing 3 1 0;thing 1 1 1;thing 1 1 0;thing 2 1 0;");
        fewest(10, 3, "thing 3 1 0;thing 1 1 1;thing 1 1 0;thing 2 1 0;");
        fewest(3, 3, "thing 1 1 0;thing 2 1 1;thing 1 1 0;thing 1 1 0;");
        fewest(48, 3, "thing 4 1 0;".repeat(4) + "thing 2 1 0;thing 1 1 0;");
        StringBuilder all = new StringBuilder();
        for (int w : new int[] {1, 2, 4, 8, 16, 32, 64, 99, 99, 99, 99, 99}) {
            all.append("thing ").append(w).append(" 1 0;");
        }
        fewest(127, 127, all.toString());
        fewest(255, 128, all.toString());
        fewest(255, 226, all.toString());
        fewest(511, 227, all.toString());
        fewest(4095, 622, all.toString());
        fewest(-1, 623, all.toString());
        fewest(-1, 999, all.toString());
    }

    private static void fewestNone() {
        Check.sentence("Promise 20: NONE: it can't be.");
        fewest(-1, 1, "");
        fewest(-1, 999, "");
        fewest(-1, 1, "thing 2 1 0;".repeat(12));
        fewest(-1, 3, "thing 1 1 0;thing 3 1 0;");
        fewest(-1, 13, "thing 1 1 0;".repeat(12));
        fewest(4095, 12, "thing 1 1 0;".repeat(12));
        Check.same("nobody there", -1, () -> new HeavyGifts().fewest(1));
    }

    private static void fewestByWeightsNow() {
        Check.sentence("(by their WEIGHTS now");
        HeavyGifts x = Check.town("person plain;thing 3 1 0 wet;thing 2 1 0;");
        Check.same("3 and 2", -1, () -> x.fewest(1));
        x.days(1);
        Check.same("2 and 2", -1, () -> x.fewest(1));
        x.days(1);
        Check.same("1 and 2", 3, () -> x.fewest(3));
        Check.same("no more", -1, () -> x.fewest(4));
    }

    private static void fewestThrows() {
        Check.sentence("Promise 20: IllegalArgumentException: n.");
        for (int n : NO_N) {
            Twins.changesNothing("fewest(" + n + ")", Twins::rich, Check.ILLEGAL, x -> x.fewest(n));
        }
        Twins.changesNothing("fewest(1)", Twins::rich, -1, x -> x.fewest(1));
        Twins.changesNothing("fewest(999)", Twins::rich, -1, x -> x.fewest(999));
    }

    private static void answers(int due, int n, boolean sand, String text) {
        HeavyGifts x = Check.town(text);
        Check.same("answers(0, " + n + ", " + sand + ") in " + text, due, () -> x.answers(0, n, sand));
    }

    private static void toTheDrachm() {
        Check.sentence("ANSWERS of one: how many of all weights 1 to n he could answer to the drachm by what he HAS");
        answers(0, 999, true, "person plain;");
        answers(0, 999, false, "person sand 99 plain;within 9;");
        answers(0, 4, false, "person plain;thing 5 1 0;within 9;");
        answers(1, 5, false, "person plain;thing 5 1 0;within 9;");
        answers(1, 6, false, "person plain;thing 5 1 0;within 9;");
        answers(0, 99, false, "person plain;person plain;thing 5 1 1;");
        answers(12, 999, false, "person plain;" + "thing 1 1 0;".repeat(12));
        answers(10, 999, false, "person plain;" + "thing 99 1 0;".repeat(12));
        answers(10, 990, false, "person plain;" + "thing 99 1 0;".repeat(12));
        answers(9, 989, false, "person plain;" + "thing 99 1 0;".repeat(12));
        answers(1, 1, false, "person plain;thing 1 1 0;");
        answers(3, 3, false, "person plain;thing 2 1 0;thing 1 1 0;");
        HeavyGifts x = Check.town("person sand 2 plain;person plain;person plain;thing 5 1 0;thing 7 1 2;");
        Check.same("1, 2, 5, 6, 7", 5, () -> x.answers(0, 9, true));
        Check.same("1 has nothing", 0, () -> x.answers(1, 99, true));
        Check.same("2 has 7", 1, () -> x.answers(2, 99, true));
        Check.same("0 has 5", 1, () -> x.answers(0, 99, false));
    }

    private static void withAndWithoutSand() {
        Check.sentence("with SAND, and without");
        answers(99, 999, true, "person sand 99 plain;");
        answers(1, 1, true, "person sand 99 plain;");
        answers(99, 99, true, "person sand 99 plain;");
        answers(99, 100, true, "person sand 99 plain;");
        answers(999, 999, true, "person sand 99 plain;" + "thing 99 1 0;".repeat(12));
        answers(999, 999, true, "person sand 98 plain;" + "thing 99 1 0;".repeat(12));
        answers(989, 999, true, "person sand 97 plain;" + "thing 99 1 0;".repeat(12));
        answers(5, 9, true, "person sand 1 wait 9;thing 3 1 0;thing 8 1 0;");
        answers(1, 7, false, "person sand 1 wait 9;thing 3 1 0;thing 8 1 0;");
    }

    private static void answersThrows() {
        Check.sentence("Promise 21: NoSuchElementException; IllegalArgumentException (behind that): n.");
        for (int n : NO_N) {
            Twins.changesNothing("answers(0, " + n + ")", Twins::rich, Check.ILLEGAL, x -> x.answers(0, n, true));
            Twins.changesNothing("answers(3, " + n + ")", Twins::rich, Check.NO_SUCH, x -> x.answers(3, n, true));
            Twins.changesNothing("answers(-1, " + n + ")", Twins::rich, Check.NO_SUCH, x -> x.answers(-1, n, false));
        }
        Twins.changesNothing("answers(2, 999)", Twins::rich, 7, x -> x.answers(2, 999, false));
    }
}
