/** Promise 17: the fewest gifts by which a thing comes to one. */
public final class GetTest {
    public static void main(String[] args) {
        near();
        byAnySetToAnyone();
        othersByChoice();
        never();
        states();
        wrongAsked();
        Check.end();
    }

    private static void get(HeavyGifts x, int due, int person, int thing) {
        Check.same("get(" + person + ", " + thing + ")", due, () -> x.get(person, thing));
    }

    private static void near() {
        HeavyGifts x = Check.town("law anyone;person plain;person plain;person plain;person plain;"
                + "thing 4 1 0;owes 0 4;");
        for (int p = 0; p < 4; p++) {
            get(x, p, p, 0);
        }
        Check.same("nothing was given", 1, () -> x.person(0, 4));
    }

    /* 0 must give thing 1, not his choice thing 0, and to 2, who gives back to him thing 2. */
    private static void byAnySetToAnyone() {
        HeavyGifts x = Check.town("person plain;person plain;person least;thing 4 1 0;thing 4 1 0;"
                + "thing 4 0 2;owes 0 4;");
        get(x, 2, 0, 2);
        get(x, 0, 0, 1);
        get(x, 1, 1, 0);
        HeavyGifts told = Check.town("person plain;person plain;person least;thing 4 1 0;thing 4 1 0;"
                + "thing 4 0 2;owes 0 4 to 1;");
        get(told, -1, 0, 2);
    }

    private static void othersByChoice() {
        HeavyGifts x = Check.town("person plain;person plain;thing 4 1 1;thing 4 1 1;owes 1 4;");
        get(x, 1, 0, 0);
        get(x, -1, 0, 1);
        HeavyGifts wait = Check.town("person plain;person wait 1;thing 4 1 1;owes 1 4;");
        get(wait, -1, 0, 0);
        Check.same("a day", 0, () -> wait.days(1));
        get(wait, 1, 0, 0);
    }

    private static void never() {
        get(Check.town("person plain;person plain;thing 4 1 1;"), -1, 0, 0);
        get(Check.town("person plain;thing 4 1 0;owes 0 4;"), 0, 0, 0);
    }

    private static void states() {
        HeavyGifts thousand = Check.town("person sand 3 plain;person least;person sand 6 plain;thing 2 1 1;"
                + "thing 1 1 1;thing 2 1 2;thing 3 1 1;thing 3 1 0;thing 1 1 0;thing 1 1 1;thing 3 1 1;"
                + "owes 0 5;owes 1 6;owes 2 2;within 0;law anyone;");
        get(thousand, 4, 0, 0);
        HeavyGifts more = Check.town("person least;person sand 7 least;thing 4 1 1;thing 2 1 0;thing 1 1 0;"
                + "thing 3 1 0;thing 3 1 1;thing 2 1 0;thing 2 1 0;thing 4 1 1;thing 1 1 1;thing 3 1 0;"
                + "owes 0 1;owes 1 6;within 2;law anyone;");
        get(more, -2, 0, 0);
        get(more, 0, 0, 1);
        HeavyGifts wide = Check.town("person sand 1 plain;person plain;" + "thing 1 1 0;".repeat(11)
                + "thing 1 1 1;owes 0 7;within 9;");
        get(wide, -2, 0, 11);
    }

    private static void wrongAsked() {
        HeavyGifts x = Check.town("person plain;person plain;thing 3 4 0;owes 0 3;");
        int[] wrong = {-1, 2, Integer.MIN_VALUE, Integer.MAX_VALUE};
        for (int w : wrong) {
            Check.noSuch("person " + w, () -> x.get(w, 0));
            Check.noSuch("thing " + w, () -> x.get(0, w));
        }
        Check.noSuch("thing 1", () -> x.get(0, 1));
        Check.noSuch("in an empty town", () -> new HeavyGifts().get(0, 0));
    }
}
