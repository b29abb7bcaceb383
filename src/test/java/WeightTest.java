/** Promises 18 to 21: cuts, weights to keep, the fewest things, answers. */
public final class WeightTest {
    public static void main(String[] args) {
        cuts();
        kept();
        fewest();
        answers();
        wrongAsked();
        Check.end();
    }

    private static void cut(String text, int many, int first) {
        HeavyGifts x = Check.town(text);
        Check.same("cuts in " + text, many, () -> x.cut(0, 0));
        Check.same("first cut in " + text, first, () -> x.cut(0, 1));
        Check.noSuch("what 2", () -> x.cut(0, 2));
        Check.noSuch("what -1", () -> x.cut(0, -1));
    }

    private static void cuts() {
        String two = "person plain;person plain;";
        cut(two + "thing 8 1 0;owes 0 4;", 1, 4);
        cut(two + "thing 8 1 0;owes 0 5;", 1, 3);
        cut(two + "thing 8 1 0;owes 0 8;", 0, -1);
        cut(two + "thing 8 1 0;owes 0 9;", 0, -1);
        cut(two + "thing 8 1 0;", 0, -1);
        cut(two + "thing 1 1 0;owes 0 2;", 0, -1);
        cut(two + "thing 8 1 1;owes 0 4;", 0, -1);
        cut("person plain;thing 8 1 0;owes 0 4;", 0, -1);
        cut(two + "thing 9 1 1;thing 8 1 0;thing 20 1 0;owes 0 5;", 2, 103);
        cut(two + "thing 20 1 0;thing 8 1 0;owes 0 5;", 2, 5);
        cut(two + "thing 99 1 0;owes 0 49;", 1, 49);
        cut(two + "thing 10 1 0;owes 0 4;within 1;", 3, 3);
        cut("person sand 2 plain;person plain;thing 10 1 0;owes 0 5;", 3, 3);
        cut(two + "thing 1 1 1;".repeat(11) + "thing 50 1 0;owes 0 1;", 1, 1101);
        HeavyGifts x = Check.town(two + "thing 8 1 0;owes 0 4;");
        Check.noSuch("person 2", () -> x.cut(2, 0));
        Check.noSuch("person -1", () -> x.cut(-1, 0));
        Check.same("one who owes nothing", 0, () -> x.cut(1, 0));
    }

    private static void kept() {
        for (int n = 1; n <= 999; n++) {
            HeavyGifts x = new HeavyGifts();
            int upTo = n;
            int many = (int) Check.answer(() -> x.keep(upTo, -1));
            long together = 0;
            for (int i = 0; i < many; i++) {
                int at = i;
                int due = i < many - 1 ? 1 << i : (int) (n - together);
                Check.same("keep(" + n + ", " + i + ")", due, () -> x.keep(upTo, at));
                together += due;
            }
            long all = together;
            Check.same("together", n, () -> all);
            Check.same("not more than twice", 1, () -> upTo - ((1 << many - 1) - 1) <= 1 << many - 1 ? 1 : 0);
            Check.noSuch("no more", () -> x.keep(upTo, many));
        }
        HeavyGifts x = new HeavyGifts();
        Check.same("keep(999, NONE)", 10, () -> x.keep(999, -1));
        Check.same("keep(2, 1)", 1, () -> x.keep(2, 1));
        Check.noSuch("keep(7, -2)", () -> x.keep(7, -2));
        Check.noSuch("keep(7, least)", () -> x.keep(7, Integer.MIN_VALUE));
        Check.noSuch("keep(7, most)", () -> x.keep(7, Integer.MAX_VALUE));
        Check.illegal("n ahead of i", () -> x.keep(0, 50));
        Check.illegal("keep(1000)", () -> x.keep(1000, -1));
        Check.illegal("keep(-1)", () -> x.keep(-1, 0));
    }

    private static void fewest() {
        HeavyGifts x = Check.town("person plain;person plain;thing 3 1 0;thing 1 1 1;thing 2 1 0;thing 1 1 0;"
                + "thing 4 1 1 wet;");
        Check.same("1", 2, () -> x.fewest(1));
        Check.same("2", 6, () -> x.fewest(2));
        Check.same("3", 6, () -> x.fewest(3));
        Check.same("6", 7, () -> x.fewest(6));
        Check.same("7", 22, () -> x.fewest(7));
        Check.same("8", 23, () -> x.fewest(8));
        Check.same("11", 31, () -> x.fewest(11));
        Check.same("12", -1, () -> x.fewest(12));
        x.days(3);
        Check.same("by the weights now", 6, () -> x.fewest(3));
        Check.same("3 drachms have dried", -1, () -> x.fewest(9));
        StringBuilder b = new StringBuilder("person plain;");
        int[] weights = {99, 1, 2, 4, 8, 16, 32, 64, 99, 99, 99, 99};
        for (int w : weights) {
            b.append("thing ").append(w).append(" 1 0;");
        }
        HeavyGifts all = Check.town(b.toString());
        Check.same("most", 4095, () -> all.fewest(622));
        Check.same("more than all", -1, () -> all.fewest(623));
        Check.same("226", 0xFF, () -> all.fewest(226));
        Check.illegal("fewest(0)", () -> all.fewest(0));
        Check.illegal("fewest(-5)", () -> all.fewest(-5));
        Check.illegal("fewest(1000)", () -> all.fewest(1000));
        Check.same("fewest(999)", -1, () -> all.fewest(999));
    }

    private static void answers() {
        HeavyGifts x = Check.town("person sand 2 plain;person plain;thing 3 1 0;thing 9 1 0;thing 9 1 0;within 9;");
        Check.same("3 9 12 18 21", 5, () -> x.answers(0, 999, false));
        Check.same("1-5 9-14 18-23", 17, () -> x.answers(0, 999, true));
        Check.same("up to 10", 7, () -> x.answers(0, 10, true));
        Check.same("up to 9", 2, () -> x.answers(0, 9, false));
        Check.same("up to 1", 0, () -> x.answers(0, 1, false));
        Check.same("nothing", 0, () -> x.answers(1, 999, true));
        HeavyGifts one = Check.town("person sand 99 plain;" + "thing 99 1 0;".repeat(12));
        Check.same("all", 999, () -> one.answers(0, 999, true));
        Check.same("ten", 10, () -> one.answers(0, 999, false));
    }

    private static void wrongAsked() {
        HeavyGifts x = Check.town("person plain;");
        Check.noSuch("person ahead of n", () -> x.answers(1, 0, true));
        Check.noSuch("person -1", () -> x.answers(-1, 5, true));
        Check.illegal("n 0", () -> x.answers(0, 0, true));
        Check.illegal("n 1000", () -> x.answers(0, 1000, false));
        Check.illegal("n -1", () -> x.answers(0, -1, false));
    }
}
