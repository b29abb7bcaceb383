/** Promises 12 to 14: sets that fit, choices by kind, gaps. */
public final class ChoiceTest {
    private static final String THINGS = "thing 3 9 0;thing 5 9 0;thing 2 1 0;thing 1 0 0;thing 8 11 0;";

    public static void main(String[] args) {
        kinds();
        aimed();
        waiting();
        toWhom();
        sand();
        bySandAlone();
        gaps();
        wrongAsked();
        Check.end();
    }

    private static void choice(HeavyGifts x, int person, int set, int sand, int other) {
        Check.same("choice 0", set, () -> x.choice(person, 0));
        Check.same("choice 1", sand, () -> x.choice(person, 1));
        Check.same("choice 2", other, () -> x.choice(person, 2));
    }

    /* Of 3, 5, 2, 1, 8 these make 8: 3+5 (bits 3), 5+2+1 (14), 8 (16). */
    private static void kinds() {
        int[] due = {3, 14, 16};
        String[] kinds = {"plain", "least", "fewest"};
        for (int i = 0; i < 3; i++) {
            HeavyGifts x = Check.town("person " + kinds[i] + ";person plain;" + THINGS + "owes 0 8;");
            Check.same("sets of " + kinds[i], 3, () -> x.sets(0));
            choice(x, 0, due[i], 0, 1);
            choice(x, 1, -1, -1, -1);
            Check.same("sets of one who owes nothing", 0, () -> x.sets(1));
        }
        HeavyGifts ties = Check.town("person least;person fewest;person plain;thing 4 5 0;thing 4 5 0;"
                + "thing 4 5 1;thing 4 5 1;owes 0 4;owes 1 4;");
        choice(ties, 0, 1, 0, 1);
        choice(ties, 1, 4, 0, 2);
    }

    private static void aimed() {
        HeavyGifts x = Check.town("person aim 0;person plain;" + THINGS + "owes 0 8;");
        Check.same("sets with it, too", 3, () -> x.sets(0));
        choice(x, 0, 14, 0, 1);
        HeavyGifts only = Check.town("person aim 0;person plain;thing 4 1 0;owes 0 4;");
        Check.same("it would fit", 1, () -> only.sets(0));
        choice(only, 0, -1, -1, -1);
    }

    private static void waiting() {
        HeavyGifts x = Check.town("person wait 2;person plain;" + THINGS + "owes 0 8;");
        choice(x, 0, -1, -1, -1);
        Check.same("sets all the same", 3, () -> x.sets(0));
        Check.same("a day", 0, () -> x.days(1));
        choice(x, 0, -1, -1, -1);
        Check.same("a day more", 0, () -> x.days(1));
        choice(x, 0, 3, 0, 1);
        choice(Check.town("person wait 0;person plain;" + THINGS + "owes 0 8;"), 0, 3, 0, 1);
    }

    private static void toWhom() {
        String four = "person plain;person aim 1;person aim 9;person aim 2;";
        HeavyGifts x = Check.town(four + "thing 1 1 1;thing 1 1 3;thing 1 1 0;thing 1 1 2;thing 1 1 3;"
                + "owes 0 1;owes 1 1;owes 2 1;owes 3 1;");
        choice(x, 0, 4, 0, 1);
        choice(x, 1, 1, 0, 3);
        choice(x, 2, 8, 0, 3);
        choice(x, 3, 2, 0, 0);
        HeavyGifts own = Check.town(four + "thing 1 1 1;thing 1 1 1;thing 1 1 3;thing 1 1 3;"
                + "owes 1 1;owes 3 1;");
        choice(own, 1, 1, 0, 2);
        choice(own, 3, 8, 0, 0);
        HeavyGifts told = Check.town(four + "thing 1 1 1;thing 1 1 3;owes 1 1 to 0;owes 3 1 to 2;");
        choice(told, 1, 1, 0, 0);
        choice(told, 3, 2, 0, 2);
    }

    private static void sand() {
        HeavyGifts x = Check.town("person sand 4 plain;person plain;thing 6 1 0;thing 2 1 0;owes 0 8;within 1;");
        Check.same("6 and 1 grain, 6 and 2", 2, () -> x.sets(0));
        choice(x, 0, 1, 1, 1);
        HeavyGifts heavy = Check.town("person sand 9 least;person plain;thing 9 1 0;thing 7 0 0;owes 0 8;within 1;");
        Check.same("none, 9, 7", 3, () -> heavy.sets(0));
        choice(heavy, 0, 0, 7, 1);
        HeavyGifts none = Check.town("person fewest;person plain;thing 9 1 0;thing 7 0 0;owes 0 8;within 1;");
        choice(none, 0, 1, 0, 1);
        Check.same("9 and 7", 2, () -> none.sets(0));
    }

    private static void bySandAlone() {
        HeavyGifts x = Check.town("person sand 5 plain;person plain;owes 0 5;");
        Check.same("the empty set", 1, () -> x.sets(0));
        choice(x, 0, 0, 5, 1);
        HeavyGifts least = Check.town("person sand 5 plain;person plain;owes 0 5;within 9;");
        choice(least, 0, 0, 1, 1);
        HeavyGifts nothing = Check.town("person plain;person plain;owes 0 5;within 9;");
        Check.same("not of nothing", 0, () -> nothing.sets(0));
        choice(nothing, 0, -1, -1, -1);
        HeavyGifts one = Check.town("person sand 5 plain;thing 5 1 0;owes 0 5;");
        Check.same("a town of one", 0, () -> one.sets(0));
        choice(one, 0, -1, -1, -1);
        HeavyGifts all = Check.town("person sand 1 plain;person plain;" + "thing 1 1 0;".repeat(12)
                + "owes 0 7;within 9;");
        Check.same("all sets", 4096, () -> all.sets(0));
    }

    private static void gap(int due, String text) {
        HeavyGifts x = Check.town("person plain;" + text);
        Check.same("gap of " + text, due, () -> x.gap(0));
    }

    private static void gaps() {
        gap(-1, "thing 5 1 0;");
        gap(0, "person plain;thing 5 1 0;owes 0 5;");
        gap(2, "person plain;thing 5 1 0;owes 0 7;");
        gap(1, "person plain;thing 5 1 0;thing 8 1 0;owes 0 7;");
        gap(4, "person plain;thing 5 1 0;owes 0 1;");
        gap(3, "person plain;thing 5 1 0;owes 0 1;within 1;");
        gap(0, "person plain;thing 5 1 0;owes 0 1;within 4;");
        gap(7, "person plain;owes 0 7;");
        gap(7, "person plain;owes 0 7;within 3;");
        gap(986, "person plain;thing 5 1 0;thing 8 1 0;owes 0 999;");
        gap(0, "thing 5 1 0;owes 0 5;");
        HeavyGifts x = Check.town("person sand 3 plain;person plain;thing 5 1 0;thing 20 1 0;owes 0 11;within 1;");
        Check.same("8 is next, with sand", 2, () -> x.gap(0));
        HeavyGifts y = Check.town("person sand 3 plain;owes 0 11;");
        Check.same("sand alone", 8, () -> y.gap(0));
        Check.same("none that owes", -1, () -> x.gap(1));
    }

    private static void wrongAsked() {
        HeavyGifts x = Check.town("person plain;person plain;thing 3 4 0;owes 0 3;");
        int[] wrong = {-1, 3, Integer.MIN_VALUE, Integer.MAX_VALUE};
        for (int w : wrong) {
            Check.noSuch("sets " + w, () -> x.sets(w));
            Check.noSuch("choice " + w, () -> x.choice(w, 0));
            Check.noSuch("choice's what " + w, () -> x.choice(0, w));
            Check.noSuch("choice's what where there is none " + w, () -> x.choice(1, w));
            Check.noSuch("gap " + w, () -> x.gap(w));
        }
        Check.noSuch("sets 2", () -> x.sets(2));
    }
}
