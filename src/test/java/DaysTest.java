/** Promises 22 to 26: rounds, days, still days, images. */
public final class DaysTest {
    public static void main(String[] args) {
        rounds();
        longRound();
        days();
        drying();
        undoOfDays();
        stillDays();
        images();
        wrongAsked();
        Check.end();
    }

    private static void round(HeavyGifts x, int person, int gifts, int last, int worth) {
        Check.same("gifts of a round", gifts, () -> x.round(person, 0));
        Check.same("who got the last", last, () -> x.round(person, 1));
        Check.same("worth of a round", worth, () -> x.round(person, 2));
    }

    private static void rounds() {
        HeavyGifts x = Check.town("law anyone;person plain;person least;person plain;"
                + "thing 5 9 0;thing 5 2 1;thing 4 8 2;owes 0 5;owes 2 4;");
        round(x, 0, 3, 0, -7);
        round(x, 1, 0, 1, 0);
        round(x, 2, 3, 2, 0);
        Check.same("apart from the town", 1, () -> x.person(0, 4));
        Check.same("not in the book", 0, () -> x.count(5));
        HeavyGifts back = Check.town("person plain;person least;thing 5 2 0;thing 5 1 1;thing 2 3 1;owes 0 5;");
        round(back, 0, 2, 0, -1);
        HeavyGifts wait = Check.town("law anyone;person plain;person wait 1;thing 5 2 0;owes 0 5;");
        round(wait, 0, 1, 1, -2);
        round(Check.town("person plain;thing 5 2 0;owes 0 5;"), 0, 0, 0, 0);
    }

    /* 0 gives to 1, and 1 and 2 send it to and fro: 0 never gets it. */
    private static void longRound() {
        HeavyGifts x = Check.town("law anyone;person plain;person aim 1;person aim 2;person plain;"
                + "thing 5 2 0;thing 4 1 2;thing 3 1 1;owes 0 5 to 1;");
        round(x, 0, 20, 2, -2);
    }

    private static void days() {
        HeavyGifts x = Check.town("law anyone;person plain;person plain;person plain;thing 5 2 1;owes 1 5;");
        Check.same("none", 0, () -> x.days(0));
        Check.same("1 and 2", 2, () -> x.days(1));
        Check.same("day", 1, () -> x.count(4));
        Check.same("0 has it", 1, () -> x.person(0, 4));
        Check.same("0, 1 and 2", 3, () -> x.days(1));
        Check.same("who gave last", 2, () -> x.gift(4, 0));
        Check.same("book", 5, () -> x.count(5));
    }

    private static void drying() {
        HeavyGifts x = Check.town("person plain;person plain;thing 3 2 0 wet;thing 2 2 0;thing 1 1 1 wet;");
        Check.same("no gifts", 0, () -> x.days(1));
        Check.same("dries", 2, () -> x.thing(0, 0));
        Check.same("is dry", 2, () -> x.thing(1, 0));
        Check.same("1 at least", 1, () -> x.thing(2, 0));
        x.days(60);
        Check.same("1 at least", 1, () -> x.thing(0, 0));
        Check.same("wet all the same", 1, () -> x.thing(0, 3));
        Check.same("weight by weights now", 3, () -> x.person(0, 6));
    }

    private static void undoOfDays() {
        HeavyGifts x = Check.town("person plain;person plain;thing 3 2 0 wet;owes 0 3;");
        Check.same("to and fro", 2, () -> x.days(1));
        Check.same("too light then", 0, () -> x.days(1));
        Check.same("undo", 1, x::undo);
        Check.same("the day stays", 2, () -> x.count(4));
        Check.same("the weight stays", 1, () -> x.thing(0, 0));
        Check.same("the gift's weight stays", 3, () -> x.gift(0, 4));
        Check.same("1 has it", 1, () -> x.person(1, 4));
        Check.same("1 owes it", 3, () -> x.person(1, 2));
        Check.same("0 owes nothing", 0, () -> x.person(0, 2));
        Check.same("undo", 0, x::undo);
        Check.same("0 owes to anyone", -1, () -> x.person(0, 3));
    }

    private static void still(String text, int due) {
        HeavyGifts x = Check.town(text);
        Check.same("still of " + text, due, x::still);
        Check.same("apart from the town", 0, () -> x.count(4) + x.count(5));
    }

    private static void stillDays() {
        String two = "person plain;person plain;";
        still("", 0);
        still(two + "thing 5 1 0;owes 0 6;", 0);
        still(two + "thing 5 1 0;owes 0 5;", -1);
        still(two + "thing 5 1 0 wet;", 4);
        still(two + "thing 1 1 0 wet;", 0);
        still(two + "thing 2 1 0 wet;", 1);
        still(two + "thing 99 1 0 wet;", 98);
        still("person wait 7;person plain;owes 0 6;", 7);
        still("person wait 7;person plain;", 0);
        still("person wait 99;person plain;owes 0 6;", 99);
        still(two + "thing 5 1 0 wet;owes 0 5;", 4);
        still("person wait 6;person plain;person plain;thing 5 1 0;thing 4 1 0;owes 0 9 to 1;law giver;", -1);
        HeavyGifts x = Check.town("person wait 99;person plain;owes 0 6;");
        x.days(40);
        Check.same("from now on", 99, x::still);
        x.days(60);
        Check.same("today", 100, x::still);
        HeavyGifts late = Check.town(two + "thing 5 1 0;owes 0 6;");
        late.days(60);
        late.days(60);
        Check.same("this day", 120, late::still);
    }

    private static void images() {
        HeavyGifts x = Check.town("person sand 2 plain;person plain;thing 3 2 0 wet;owes 0 5;");
        Check.same("none", 0, () -> x.restore() ? 1 : 0);
        Check.same("gift", 0, () -> x.give(0, 1, 2, 1));
        Check.same("trouble", 1, () -> x.give(5, 0, 0, 0));
        Check.same("fault", 1, () -> Check.tell(x, "x"));
        x.days(1);
        x.image();
        int[] before = all(x);
        Check.same("trouble", 1, () -> x.give(5, 0, 0, 0));
        Check.same("fault", 2, () -> Check.tell(x, "within 77;"));
        Check.same("fault's place", 7, x::fault);
        x.undo();
        x.undo();
        x.days(2);
        Check.feed(x, "abc");
        Check.same("restore", 1, () -> x.restore() ? 1 : 0);
        same(before, all(x), "restored");
        Check.same("fault's place is not of the image", 7, x::fault);
        Check.same("nor the tape", 20, () -> x.count(6));
        x.days(3);
        Check.same("restore once more", 1, () -> x.restore() ? 1 : 0);
        same(before, all(x), "restored once more");
        Check.same("undo behind it", 1, x::undo);
        Check.same("undo behind it", 0, x::undo);
        Check.same("what was owed", 5, () -> x.person(0, 2));
        Check.same("sand", 2, () -> x.person(0, 1));
        x.image();
        x.days(1);
        Check.same("in place of the other", 1, () -> x.restore() ? 1 : 0);
        Check.same("no gift then", 0, () -> x.count(5));
    }

    private static int[] all(HeavyGifts x) {
        int[] row = new int[9 + 14 + 4 + 5];
        int at = 0;
        for (int what = 0; what < 9; what++) {
            row[at++] = what == 6 ? 0 : x.count(what);
        }
        for (int what = 0; what < 7; what++) {
            row[at++] = x.person(0, what);
            row[at++] = x.person(1, what);
        }
        for (int what = 0; what < 4; what++) {
            row[at++] = x.thing(0, what);
        }
        for (int what = 0; what < 5; what++) {
            row[at++] = x.gift(0, what);
        }
        return row;
    }

    private static void same(int[] due, int[] got, String name) {
        for (int i = 0; i < due.length; i++) {
            int at = i;
            Check.same(name + " " + i, due[i], () -> got[at]);
        }
    }

    private static void wrongAsked() {
        HeavyGifts x = Check.town("person plain;");
        int[] wrong = {-1, 3, Integer.MIN_VALUE, Integer.MAX_VALUE};
        for (int w : wrong) {
            Check.noSuch("round " + w, () -> x.round(w, 0));
            Check.noSuch("round's what " + w, () -> x.round(0, w));
        }
        Check.illegal("days -1", () -> x.days(-1));
        Check.illegal("days 61", () -> x.days(61));
        Check.illegal("days least", () -> x.days(Integer.MIN_VALUE));
        Check.same("nothing changed", 0, () -> x.count(4));
    }
}
