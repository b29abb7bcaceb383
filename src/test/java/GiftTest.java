/** Promises 8 to 11: gifts, their troubles, the book and undoing. */
public final class GiftTest {
    public static void main(String[] args) {
        troubles();
        leastTrouble();
        within();
        lawOfGiver();
        lawOfAnyone();
        bookAndUndo();
        fullBook();
        Check.end();
    }

    private static void trouble(HeavyGifts x, int due, int person, int things, int sand, int other) {
        String call = "(" + person + ", " + things + ", " + sand + ", " + other + ")";
        long refused = x.count(8);
        Check.same("judge" + call, due, () -> x.judge(person, things, sand, other));
        Check.same("judging counts nothing", refused, () -> x.count(8));
        Check.same("give" + call, due, () -> x.give(person, things, sand, other));
        Check.same("refused behind give" + call, refused + (due == 0 ? 0 : 1), () -> x.count(8));
    }

    private static void troubles() {
        HeavyGifts x = Check.town("person sand 3 plain;person plain;person plain;"
                + "thing 5 1 0;thing 4 2 0;thing 7 3 1;owes 0 6 to 2;owes 1 7;");
        int[] nobody = {-1, 3, 6, Integer.MIN_VALUE, Integer.MAX_VALUE};
        for (int p : nobody) {
            trouble(x, 1, p, 1, 1, 2);
            trouble(x, 1, 0, 1, 1, p);
        }
        trouble(x, 1, 0, 8, 0, 2);
        trouble(x, 1, 0, -1, 0, 2);
        trouble(x, 1, 0, Integer.MIN_VALUE, 0, 2);
        trouble(x, 1, 0, 1 << 12, 0, 2);
        trouble(x, 1, 0, 1, -1, 2);
        trouble(x, 1, 0, 1, Integer.MIN_VALUE, 2);
        trouble(x, 2, 2, 0, 0, 0);
        trouble(x, 3, 0, 4, 0, 2);
        trouble(x, 3, 0, 1, 4, 2);
        trouble(x, 3, 0, 1, Integer.MAX_VALUE, 2);
        trouble(x, 4, 0, 1, 1, 0);
        trouble(x, 4, 0, 1, 1, 1);
        trouble(x, 4, 1, 4, 0, 1);
        trouble(x, 5, 0, 0, 0, 2);
        trouble(x, 5, 0, 0, 3, 2);
        trouble(x, 5, 0, 1, 0, 2);
        trouble(x, 6, 0, 1, 2, 2);
        trouble(x, 6, 0, 3, 0, 2);
        Check.same("no gift so far", 0, () -> x.count(5));
        trouble(x, 0, 0, 1, 1, 2);
        trouble(x, 0, 1, 4, 0, 0);
        Check.same("both in the book", 2, () -> x.count(5));
    }

    private static void leastTrouble() {
        HeavyGifts x = Check.town("person plain;person plain;thing 5 1 0;thing 5 1 1;owes 0 9 to 1;");
        trouble(x, 1, 1, 4, 7, 1);
        trouble(x, 2, 1, 1, 7, 1);
        trouble(x, 3, 0, 2, 0, 0);
        trouble(x, 4, 0, 1, 0, 0);
        trouble(x, 5, 0, 1, 0, 1);
        HeavyGifts one = Check.town("person plain;thing 5 1 0;owes 0 5;");
        trouble(one, 4, 0, 1, 0, 0);
        trouble(one, 1, 0, 1, 0, 1);
    }

    private static void within() {
        HeavyGifts x = Check.town("person sand 20 plain;person plain;owes 0 3;within 9;");
        trouble(x, 5, 0, 0, 0, 1);
        trouble(x, 6, 0, 0, 13, 1);
        trouble(x, 0, 0, 0, 12, 1);
        Check.same("owes what it weighs", 12, () -> x.person(1, 2));
        Check.same("undo", 0, x::undo);
        trouble(x, 0, 0, 0, 1, 1);
        Check.same("owes 1", 1, () -> x.person(1, 2));
    }

    private static void lawOfGiver() {
        HeavyGifts x = Check.town("person sand 3 plain;person sand 2 plain;person plain;"
                + "thing 5 10 0;thing 1 20 1;owes 0 7;owes 1 99 to 2;");
        trouble(x, 0, 0, 1, 2, 1);
        Check.same("giver owes nothing", 0, () -> x.person(0, 2));
        Check.same("to nobody", -1, () -> x.person(0, 3));
        Check.same("giver's sand", 1, () -> x.person(0, 1));
        Check.same("giver's things", 0, () -> x.person(0, 4));
        Check.same("taker owes the weight", 7, () -> x.person(1, 2));
        Check.same("to the giver", 0, () -> x.person(1, 3));
        Check.same("taker's sand", 4, () -> x.person(1, 1));
        Check.same("taker's things", 3, () -> x.person(1, 4));
        Check.same("taker's worth", 30, () -> x.person(1, 5));
        Check.same("taker's weight", 6, () -> x.person(1, 6));
        Check.same("who has 0", 1, () -> x.thing(0, 2));
        Check.same("undo", 0, x::undo);
        Check.same("owes again", 7, () -> x.person(0, 2));
        Check.same("to anyone again", -1, () -> x.person(0, 3));
        Check.same("sand again", 3, () -> x.person(0, 1));
        Check.same("has again", 1, () -> x.person(0, 4));
        Check.same("taker owes as ahead", 99, () -> x.person(1, 2));
        Check.same("to whom as ahead", 2, () -> x.person(1, 3));
        Check.same("taker's sand as ahead", 2, () -> x.person(1, 1));
        Check.same("taker has as ahead", 2, () -> x.person(1, 4));
    }

    private static void lawOfAnyone() {
        HeavyGifts x = Check.town("law anyone;person plain;person plain;person plain;thing 5 10 0;owes 0 5 to 1;");
        trouble(x, 0, 0, 1, 0, 1);
        Check.same("owes it", 5, () -> x.person(1, 2));
        Check.same("to anyone", -1, () -> x.person(1, 3));
        trouble(x, 0, 1, 1, 0, 2);
        Check.same("2 has it", 1, () -> x.person(2, 4));
        Check.same("undo", 1, x::undo);
        Check.same("to anyone again", -1, () -> x.person(1, 3));
        Check.same("undo", 0, x::undo);
        Check.same("to 1 again", 1, () -> x.person(0, 3));
    }

    private static void bookAndUndo() {
        HeavyGifts x = Check.town("person sand 9 plain;person plain;person plain;thing 5 1 0;thing 3 1 0;owes 0 9;");
        trouble(x, 0, 0, 3, 1, 2);
        trouble(x, 0, 2, 3, 1, 0);
        int[][] due = {{0, 3, 1, 2, 9}, {2, 3, 1, 0, 9}};
        for (int i = 0; i < 2; i++) {
            for (int what = 0; what < 5; what++) {
                int at = i;
                int w = what;
                Check.same("gift " + i + " " + what, due[i][what], () -> x.gift(at, w));
            }
        }
        int[] wrong = {-1, 2, 200, Integer.MIN_VALUE, Integer.MAX_VALUE};
        for (int i : wrong) {
            Check.noSuch("gift " + i, () -> x.gift(i, 0));
            Check.noSuch("what " + (i == 2 ? 5 : i), () -> x.gift(0, i == 2 ? 5 : i));
        }
        Check.same("undo leaves", 1, x::undo);
        Check.noSuch("it is gone", () -> x.gift(1, 0));
        Check.same("undo all", 0, x::undo);
        Check.same("none", -1, x::undo);
        Check.same("status stays", 0, () -> x.count(8));
        Check.same("sand", 9, () -> x.person(0, 1));
    }

    private static void fullBook() {
        HeavyGifts x = Check.town("person plain;person plain;thing 5 1 0;thing 3 1 0;owes 0 5;");
        Check.same("100 days of two gifts", 120, () -> x.days(60));
        Check.same("to the book's end", 80, () -> x.days(60));
        Check.same("200 gifts", 200, () -> x.count(5));
        Check.same("day 120", 120, () -> x.count(4));
        Check.same("no gift is refused by days", 0, () -> x.count(8));
        Check.same("he could give", 1, () -> x.choice(0, 0));
        Check.same("judge does not ask the book", 0, () -> x.judge(0, 1, 0, 1));
        Check.same("the book is full", 7, () -> x.give(0, 1, 0, 1));
        Check.same("refused", 1, () -> x.count(8));
        Check.same("troubles come ahead", 6, () -> x.give(0, 3, 0, 1));
        Check.same("a day without gifts", 0, () -> x.days(1));
        Check.same("still does not ask the book", -1, x::still);
        Check.same("a round neither", 2, () -> x.round(0, 0));
        Check.same("the last", 1, () -> x.gift(199, 0));
        Check.same("undo", 199, x::undo);
        Check.same("one has room", 0, () -> x.give(1, 1, 0, 0));
        Check.same("undo", 199, x::undo);
        Check.same("a day's one gift", 1, () -> x.days(1));
        Check.same("full again", 200, () -> x.count(5));
    }
}
