/** Promises 15 and 16: the week and its order. */
public final class WeekTest {
    public static void main(String[] args) {
        nobodyOwes();
        secondOrder();
        owesWhatHeOwedFirst();
        anySets();
        waitersAnswer();
        mostAndTries();
        keptOrder();
        keptWithoutAnother();
        keptWhenSpent();
        undoAndRestoreLeaveTheOrder();
        townTakesTheOrder();
        spent();
        wrongAsked();
        Check.end();
    }

    private static void week(HeavyGifts x, int all, int most, int tries, int... order) {
        Check.same("all", all, () -> x.week(0));
        Check.same("most", most, () -> x.week(1));
        Check.same("tries", tries, () -> x.week(2));
        for (int i = 0; i < order.length; i++) {
            int at = i;
            Check.same("order " + i, order[i], () -> x.order(at));
        }
        Check.noSuch("behind the order", () -> x.order(order.length));
        Check.noSuch("ahead of the order", () -> x.order(-1));
    }

    private static void nobodyOwes() {
        week(Check.town("person plain;person plain;thing 1 1 0;"), 1, 0, 0);
        week(Check.town("person plain;thing 4 1 0;owes 0 4;"), 0, 0, 0);
    }

    /* 0 has nothing till 1 and 2 have given: 2 gives to 0 what 1 gave him. */
    private static void secondOrder() {
        HeavyGifts x = Check.town("person plain;person plain;person plain;thing 4 1 1;"
                + "owes 0 4 to 1;owes 1 4 to 2;owes 2 4 to 0;");
        week(x, 1, 3, 3, 1, 2, 0);
        Check.same("nothing was given", 1, () -> x.person(1, 4));
        Check.same("nothing in the book", 0, () -> x.count(5));
        Check.same("owes as ahead", 4, () -> x.person(0, 2));
    }

    /* What 1 is given in the week he owes only behind it: he answers 6, not 4. */
    private static void owesWhatHeOwedFirst() {
        week(Check.town("person plain;person plain;thing 4 1 0;thing 2 1 1;owes 0 4;owes 1 6;"), 1, 2, 2, 0, 1);
        week(Check.town("person plain;person plain;thing 4 1 0;thing 5 1 1;owes 0 4;owes 1 6;"), 0, 1, 1);
    }

    /* By choice 0 would give thing 0, of 4, but only from things 1 and 2 (3 and 1) can 1 answer his 3. */
    private static void anySets() {
        HeavyGifts x = Check.town("person plain;person plain;person plain;thing 4 1 0;thing 3 1 0;thing 1 1 0;"
                + "thing 2 1 1;owes 0 4;owes 1 3 to 2;");
        Check.same("choice", 1, () -> x.choice(0, 0));
        week(x, 1, 2, 3, 0, 1);
        HeavyGifts sand = Check.town("person sand 1 plain;person plain;thing 3 1 0;owes 0 4;owes 1 4;");
        week(sand, 1, 2, 2, 0, 1);
    }

    private static void waitersAnswer() {
        HeavyGifts x = Check.town("person wait 9;person aim 0;person plain;thing 4 1 0;thing 5 1 2;"
                + "owes 0 4 to 1;owes 1 4;owes 2 9;");
        week(x, 1, 3, 3, 0, 1, 2);
    }

    /* 0, 1 and 2 may give in any order, 3 never: 3 + 2 * 3 + 6 tries. */
    private static void mostAndTries() {
        HeavyGifts x = Check.town("person plain;person plain;person plain;person plain;"
                + "thing 1 1 0;thing 1 1 1;thing 1 1 2;owes 0 1 to 3;owes 1 1 to 3;owes 2 1 to 3;owes 3 50;");
        week(x, 0, 3, 15);
    }

    private static void keptOrder() {
        HeavyGifts x = Check.town("person plain;person plain;thing 4 1 1;owes 0 4;owes 1 4;");
        week(x, 1, 2, 2, 1, 0);
        Check.same("a gift", 0, () -> x.give(1, 1, 0, 0));
        Check.same("a gift", 0, () -> x.give(0, 1, 0, 1));
        Check.same("the order is kept", 0, () -> x.order(1));
        x.image();
        Check.same("now one owes", 1, () -> x.week(0));
        Check.same("his order", 1, () -> x.order(0));
        Check.noSuch("no other", () -> x.order(1));
        Check.same("restore", 1, () -> x.restore() ? 1 : 0);
        Check.noSuch("the image has no order", () -> x.order(1));
        Check.noSuch("wrong", () -> x.week(3));
        Check.same("which changes nothing", 1, () -> x.order(0));
    }

    private static void order(HeavyGifts x, String when, int... due) {
        for (int i = 0; i < due.length; i++) {
            int at = i;
            Check.same("order " + i + " " + when, due[i], () -> x.order(at));
        }
        Check.noSuch("behind the order " + when, () -> x.order(due.length));
    }

    /* 1 owes 9, which nobody can make, till 0 gives him 4. */
    private static void keptWithoutAnother() {
        HeavyGifts x = Check.town("person plain;person plain;person plain;thing 4 1 0;thing 3 1 2;"
                + "owes 0 4;owes 1 9;owes 2 3;");
        Check.same("no order", 0, () -> x.week(0));
        order(x, "where none was found yet");
        Check.same("a gift", 0, () -> x.give(0, 1, 0, 1));
        Check.same("an order", 1, () -> x.week(0));
        order(x, "as found", 1, 2);
        Check.same("undo", 0, x::undo);
        for (int what = 0; what < 3; what++) {
            int w = what;
            int[] due = {0, 2, 4};
            Check.same("none any more, what " + w, due[w], () -> x.week(w));
            order(x, "behind a week without one", 1, 2);
        }
        Check.same("a gift", 0, () -> x.give(2, 2, 0, 0));
        Check.same("still none", 0, () -> x.week(0));
        order(x, "behind another one", 1, 2);
        Check.same("a gift", 0, () -> x.give(0, 2, 0, 2));
        Check.same("0 owes nothing, 1 owes 9", 0, () -> x.week(0));
        order(x, "behind all of them", 1, 2);
    }

    /* 5 owes 900, and all ways are tried, till 0 gives him 2. */
    private static void keptWhenSpent() {
        HeavyGifts x = Check.town("person plain;person plain;person plain;person sand 4 plain;person plain;"
                + "person plain;thing 1 1 2;thing 1 1 2;thing 3 1 0;thing 4 1 1;thing 4 1 2;thing 3 1 0;"
                + "thing 3 1 1;thing 2 1 0;thing 1 1 5;thing 1 1 1;"
                + "owes 0 2;owes 1 4;owes 2 2;owes 3 4;owes 4 3;owes 5 900;within 2;");
        Check.same("a gift", 0, () -> x.give(0, 128, 0, 5));
        Check.same("an order", 1, () -> x.week(0));
        order(x, "as found", 1, 2, 3, 4, 5);
        Check.same("undo", 0, x::undo);
        for (int what = 0; what < 3; what++) {
            int w = what;
            Check.same("spent, what " + w, -2, () -> x.week(w));
            order(x, "behind a spent week", 1, 2, 3, 4, 5);
        }
    }

    private static void undoAndRestoreLeaveTheOrder() {
        HeavyGifts x = Check.town("person plain;person plain;thing 4 1 0;owes 0 4;");
        x.image();
        Check.same("a gift", 0, () -> x.give(0, 1, 0, 1));
        Check.same("an order", 1, () -> x.week(0));
        order(x, "as found", 1);
        Check.same("undo", 0, x::undo);
        order(x, "behind undo", 1);
        Check.same("restore", 1, () -> x.restore() ? 1 : 0);
        order(x, "behind restore", 1);
    }

    private static void townTakesTheOrder() {
        HeavyGifts x = Check.town("person plain;person plain;thing 4 1 0;owes 0 4;");
        Check.same("an order", 1, () -> x.week(0));
        Check.same("a fault", 1, () -> Check.tell(x, "person;"));
        order(x, "behind a fault", 0);
        Check.illegal("no such text", () -> x.town(701));
        order(x, "behind a town() that throws", 0);
        Check.same("a town", 0, () -> Check.tell(x, "person plain;person plain;thing 4 1 0;owes 0 4;"));
        order(x, "behind a town");
    }

    private static void spent() {
        HeavyGifts edge = Check.town("person sand 5 plain;person sand 4 plain;person sand 2 plain;"
                + "person sand 4 plain;person sand 1 plain;thing 1 1 3;thing 2 1 3;thing 1 1 3;thing 3 1 2;"
                + "thing 1 1 1;thing 1 1 2;thing 1 1 3;thing 1 1 0;thing 4 1 4;thing 3 1 1;"
                + "owes 0 5;owes 1 4;owes 2 5;owes 3 2;owes 4 900;within 1;");
        week(edge, 0, 4, 20000);
        HeavyGifts more = Check.town("person plain;person plain;person plain;person sand 4 plain;person plain;"
                + "person plain;thing 1 1 2;thing 1 1 2;thing 3 1 0;thing 4 1 1;thing 4 1 2;thing 3 1 0;"
                + "thing 3 1 1;thing 2 1 0;thing 1 1 5;thing 1 1 1;"
                + "owes 0 2;owes 1 4;owes 2 2;owes 3 4;owes 4 3;owes 5 900;within 2;");
        week(more, -2, -2, -2);
    }

    private static void wrongAsked() {
        HeavyGifts x = new HeavyGifts();
        int[] wrong = {-1, 3, Integer.MIN_VALUE, Integer.MAX_VALUE};
        for (int w : wrong) {
            Check.noSuch("week " + w, () -> x.week(w));
            Check.noSuch("order " + w, () -> x.order(w));
        }
    }
}
