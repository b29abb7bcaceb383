/** The sentences of the terms' fifth part and of promises 22 to 26 that name an edge: a test for each of them. */
public final class DaysEdgesTest {
    private static final String TWO = "person plain;person plain;";

    public static void main(String[] args) {
        roundComesToHim();
        roundWithoutChoice();
        round20();
        roundsWorth();
        roundApart();
        roundThrows();
        givenOnThatDay();
        oneDrachmAtLeast();
        days0To60();
        daysThrow();
        stillNobodyGave();
        stillNobodyWaits();
        stillNothingDries();
        still100();
        stillApart();
        book200();
        noRoomOnDays();
        undoneDays();
        status();
        imageKeeps();
        imageInPlace();
        imageOfAFullBook();
        restoreWithout();
        Check.end();
    }

    private static void round(String text, int person, int gifts, int last, int worth) {
        HeavyGifts x = Check.town(text);
        Check.same("gifts of a round in " + text, gifts, () -> x.round(person, 0));
        Check.same("who got the last in " + text, last, () -> x.round(person, 1));
        Check.same("the worth in " + text, worth, () -> x.round(person, 2));
    }

    private static void roundComesToHim() {
        Check.sentence("A ROUND from one who OWES: he gives by CHOICE, then who got it, and so on, till it comes to"
                + " him");
        round(TWO + "thing 5 1 0;owes 0 5;", 0, 2, 0, 0);
        round(TWO + "thing 5 1 1;owes 1 5;", 1, 2, 1, 0);
        for (int p = 0; p < 6; p++) {
            round("person plain;".repeat(6) + "law anyone;thing 5 1 " + p + ";owes " + p + " 5;", p, 6, p, 0);
        }
    }

    private static void roundWithoutChoice() {
        Check.sentence("or one has no CHOICE .. who got the last one (he himself, if none)");
        round("person plain;", 0, 0, 0, 0);
        round("person sand 5 plain;owes 0 5;", 0, 0, 0, 0);
        round(TWO + "thing 5 1 1;", 1, 0, 1, 0);
        round(TWO + "thing 5 1 1;owes 1 4;", 1, 0, 1, 0);
        round("person plain;person wait 1;thing 5 1 1;owes 1 5;", 1, 0, 1, 0);
        round("person plain;person aim 0;person plain;thing 5 7 0;owes 0 5;", 0, 1, 1, -7);
        round("person plain;person plain;person aim 0;thing 5 7 0;law anyone;owes 0 5;", 0, 2, 2, -7);
    }

    /* 0 gives to 1; 1 and 2 aim at what the other one has, and send it to and fro. */
    private static void round20() {
        Check.sentence("or 20 GIFTS are made");
        round("law anyone;person plain;person aim 1;person aim 2;person plain;thing 5 2 0;thing 4 1 2;"
                + "thing 3 1 1;owes 0 5;", 0, 20, 2, -2);
        round("law anyone;person plain;person aim 1;person aim 2;person plain;thing 5 2 1;thing 4 1 2;"
                + "thing 3 1 1;owes 1 5;", 1, 2, 1, 0);
    }

    private static void roundsWorth() {
        Check.sentence("the WORTH that he HAS then, less what he HAD");
        round("person plain;person plain;thing 5 0 0;thing 5 999 1;owes 0 5;", 0, 2, 0, 0);
        round("person plain;person least;thing 5 999 0;thing 5 0 1;owes 0 5;", 0, 2, 0, -999);
        round("person plain;person aim 0;thing 5 0 0;thing 5 999 1;owes 0 5;", 0, 2, 0, 999);
        round("person plain;person wait 9;" + "thing 1 999 0;".repeat(12) + "owes 0 12;", 0, 1, 1, -11988);
    }

    private static void roundThrows() {
        Check.sentence("Promise 22: NoSuchElementException: also another what.");
        for (int w : new int[] {-1, 3, Integer.MIN_VALUE, Integer.MAX_VALUE}) {
            Twins.changesNothing("round's what " + w, Twins::rich, Check.NO_SUCH, x -> x.round(2, w));
        }
    }

    private static void roundApart() {
        Check.sentence("or 20 GIFTS are made: apart from the TOWN.");
        for (int what = 0; what < 3; what++) {
            int w = what;
            Twins.changesNothing("round(0, " + w + ")", DaysEdgesTest::toGive, new int[] {2, 0, 0}[w],
                    x -> x.round(0, w));
            Twins.changesNothing("round in a full book", GiftEdgesTest::withFullBook, new int[] {2, 0, 0}[w],
                    x -> x.round(0, w));
        }
    }

    private static HeavyGifts toGive() {
        HeavyGifts x = new HeavyGifts();
        Check.tell(x, TWO + "thing 5 1 0;thing 3 1 0 wet;owes 0 5;");
        x.week(0);
        x.image();
        x.days(1);
        return x;
    }

    private static void givenOnThatDay() {
        Check.sentence("each DAY PEOPLE in order, who OWE (what they were given on that DAY, too), give by CHOICE");
        String six = "law anyone;" + "person plain;".repeat(6);
        for (int p = 0; p < 6; p++) {
            int due = 6 - p;
            HeavyGifts x = Check.town(six + "thing 5 1 " + p + ";owes " + p + " 5;");
            Check.same("from " + p + " to the last one", due, () -> x.days(1));
            Check.same("who is given 0", 1, () -> x.person(0, 4));
            Check.same("and gives on the next day", 6, () -> x.days(1));
        }
        HeavyGifts back = Check.town("person plain;person plain;person plain;thing 5 1 2;owes 2 5 to 1;");
        Check.same("to one whose turn has been", 1, () -> back.days(1));
        Check.same("he gives on the next day, and gets it again", 2, () -> back.days(1));
    }

    private static void oneDrachmAtLeast() {
        Check.sentence("Behind each DAY a WET THING weighs a drachm less (1 at least).");
        HeavyGifts x = Check.town("person plain;thing 1 1 0 wet;thing 2 1 0 wet;thing 3 1 0 wet;thing 3 1 0;"
                + "thing 99 1 0 wet;");
        int[][] due = {{1, 2, 3, 3, 99}, {1, 1, 2, 3, 98}, {1, 1, 1, 3, 97}, {1, 1, 1, 3, 96}};
        for (int day = 0; day < due.length; day++) {
            for (int i = 0; i < 5; i++) {
                int thing = i;
                Check.same("thing " + i + " on day " + day, due[day][i], () -> x.thing(thing, 0));
            }
            x.days(1);
        }
        x.days(60);
        x.days(34);
        Check.same("98 days", 98, () -> x.count(4));
        Check.same("the heaviest", 1, () -> x.thing(4, 0));
        x.days(1);
        Check.same("1 at least", 1, () -> x.thing(4, 0));
        Check.same("wet all the same", 1, () -> x.thing(4, 3));
    }

    private static void days0To60() {
        Check.sentence("Promise 23: So many DAYS (0 to 60): how many GIFTS were made.");
        Twins.changesNothing("no days", Twins::rich, 0, x -> x.days(0));
        Twins.changesNothing("no days", DaysEdgesTest::toGive, 0, x -> x.days(0));
        HeavyGifts one = toGive();
        Check.same("two gifts", 2, () -> one.days(1));
        Check.same("day", 2, () -> one.count(4));
        HeavyGifts most = toGive();
        Check.same("two a day", 120, () -> most.days(60));
        Check.same("day", 61, () -> most.count(4));
        HeavyGifts long2 = Check.town("");
        for (int i = 1; i <= 500; i++) {
            long2.days(60);
        }
        Check.same("all days that there can be and more", 30000, () -> long2.count(4));
    }

    private static void daysThrow() {
        Check.sentence("Promise 23: IllegalArgumentException: how many.");
        for (int days : new int[] {-1, 61, Integer.MIN_VALUE, Integer.MAX_VALUE}) {
            Twins.changesNothing("days(" + days + ")", Twins::rich, Check.ILLEGAL, x -> x.days(days));
            Twins.changesNothing("days(" + days + ")", DaysEdgesTest::toGive, Check.ILLEGAL, x -> x.days(days));
        }
    }

    private static void still(int due, String text) {
        HeavyGifts x = Check.town(text);
        Check.same("still of " + text, due, x::still);
    }

    /* He who aims at the only thing that he is given keeps it. */
    private static void stillNobodyGave() {
        Check.sentence("STILL: a DAY on which nobody gave anything");
        still(0, "");
        still(0, "person sand 1 plain;owes 0 1;");
        still(0, TWO + "thing 5 1 0;owes 0 6;");
        still(1, "person plain;person aim 0;thing 5 1 0;owes 0 5;");
        still(2, "law anyone;person plain;person aim 0;person plain;thing 5 1 2;owes 2 5;");
        still(-1, TWO + "thing 5 1 0;owes 0 5;");
    }

    private static void stillNobodyWaits() {
        Check.sentence("nobody waits any more who OWES");
        still(0, "person wait 0;person plain;owes 0 6;");
        still(1, "person wait 1;person plain;owes 0 6;");
        still(98, "person wait 98;person plain;owes 0 6;");
        still(0, "person wait 98;person plain;");
        still(0, "person wait 98;person plain;owes 1 6;");
        still(7, "person wait 3;person wait 7;owes 0 6;owes 1 6;");
        still(5, "person wait 5;owes 0 6;");
        still(7, "person wait 7;person plain;owes 0 1;");
        still(9, "person wait 8;".repeat(5) + "person wait 9;owes 0 1;owes 4 1;owes 5 1;");
        still(8, "person wait 8;".repeat(5) + "person wait 9;owes 0 1;owes 4 1;");
    }

    private static void stillNothingDries() {
        Check.sentence("no THING that weighs more than 1 is WET");
        still(0, TWO + "thing 1 1 0 wet;");
        still(1, TWO + "thing 2 1 0 wet;");
        still(98, TWO + "thing 99 1 0 wet;");
        still(0, TWO + "thing 99 1 0;");
        still(4, "person plain;thing 3 1 0 wet;thing 5 1 0 wet;thing 9 1 0;");
        HeavyGifts x = Check.town(TWO + "thing 3 1 0 wet;");
        x.days(1);
        Check.same("from the next day on", 2, x::still);
        x.days(5);
        Check.same("today", 6, x::still);
    }

    /* On day 99 he gives, on day 100 nobody does. */
    private static void still100() {
        Check.sentence("Promise 24: 100 DAYS at most, this one the first; NONE: none of them");
        still(99, "person wait 99;person plain;owes 0 6;");
        HeavyGifts x = Check.town("person wait 99;person aim 0;thing 5 1 0;owes 0 5;");
        Check.same("day 100 is the 101st", -1, x::still);
        x.days(1);
        Check.same("day 100 is the 100th", 100, x::still);
        x.days(60);
        x.days(38);
        Check.same("day 99", 99, () -> x.count(4));
        Check.same("the second", 100, x::still);
        x.days(1);
        Check.same("this one", 100, x::still);
        x.days(60);
        Check.same("this one", 160, x::still);
    }

    private static void stillApart() {
        Check.sentence("Promise 24: apart from the TOWN (as if THE BOOK had room");
        Twins.changesNothing("still", Twins::rich, -1, HeavyGifts::still);
        Twins.changesNothing("still", DaysEdgesTest::toGive, -1, HeavyGifts::still);
        Twins.changesNothing("in a full book", GiftEdgesTest::withFullBook, -1, HeavyGifts::still);
        Twins.changesNothing("today", HeavyGifts::new, 0, HeavyGifts::still);
    }

    private static void book200() {
        Check.sentence("THE BOOK: GIFTS that were done (at most 200)");
        HeavyGifts x = toGive();
        Check.same("a day's gifts and of 60 more", 120, () -> x.days(60));
        Check.same("122", 122, () -> x.count(5));
        Check.same("up to 200", 78, () -> x.days(40));
        Check.same("full", 200, () -> x.count(5));
        Check.same("41 days and 60", 101, () -> x.count(4));
        HeavyGifts by199 = toGive();
        by199.days(60);
        by199.days(39);
        by199.undo();
        Check.same("199", 199, () -> by199.count(5));
        Check.same("the 200th", 0, () -> by199.give(1, 1, 0, 0));
        Check.same("full", 200, () -> by199.count(5));
        Check.same("the 201st", 7, () -> by199.give(0, 1, 0, 1));
    }

    /* Of 199 gifts the last was 0's: on the next day 1 gives the 200th, and 0, who has had his turn, owes it. */
    private static void noRoomOnDays() {
        Check.sentence("A GIFT for which it has no room isn't made (on DAYS, too).");
        Twins.changesOnly("a day in a full book", GiftEdgesTest::withFullBook, 0, x -> x.days(1), "count(4)");
        Twins.changesOnly("60 days in a full book", GiftEdgesTest::withFullBook, 0, x -> x.days(60), "count(4)");
        HeavyGifts x = GiftEdgesTest.withFullBook();
        x.undo();
        x.undo();
        Check.same("0 gives", 0, () -> x.give(0, 1, 0, 1));
        Check.same("1 gives the 200th", 1, () -> x.days(1));
        Check.same("full", 200, () -> x.count(5));
        Check.same("none is left", 0, () -> x.days(1));
        HeavyGifts y = GiftEdgesTest.withFullBook();
        y.undo();
        y.undo();
        Check.same("198", 198, () -> y.count(5));
        Check.same("0 and 1 give", 2, () -> y.days(1));
        HeavyGifts z = Check.town("law anyone;person plain;person plain;person plain;thing 5 1 0;owes 0 5;");
        z.days(60);
        Check.same("three a day, of the last only two", 20, () -> z.days(7));
        Check.same("1 gave the last one", 1, () -> z.gift(199, 0));
        Check.same("2 has it", 2, () -> z.thing(0, 2));
        Check.same("and owes it", 5, () -> z.person(2, 2));
        Check.same("no call was refused", 0, () -> z.count(8));
    }

    private static void undoneDays() {
        Check.sentence("of which the last is UNDONE (those of DAYS, too, but DAYS and WEIGHTS stay):"
                + " all HAVE and OWE what they did ahead of it");
        HeavyGifts x = Check.town("person sand 2 plain;person plain;thing 3 1 0 wet;owes 0 5;");
        Check.same("to and fro", 2, () -> x.days(1));
        x.days(1);
        Check.same("undo", 1, x::undo);
        int[] giver = {0, 0, 0, -1, 0, 0, 0};
        int[] taker = {0, 2, 5, 0, 1, 1, 1};
        for (int what = 0; what < 7; what++) {
            int w = what;
            Check.same("0's " + w, giver[w], () -> x.person(0, w));
            Check.same("1's " + w, taker[w], () -> x.person(1, w));
        }
        Check.same("undo", 0, x::undo);
        Check.same("0 has it", 1, () -> x.person(0, 4));
        Check.same("his sand", 2, () -> x.person(0, 1));
        Check.same("he owes as told", 5, () -> x.person(0, 2));
        Check.same("to anyone", -1, () -> x.person(0, 3));
        Check.same("1 owes nothing", 0, () -> x.person(1, 2));
        Check.same("the days stay", 2, () -> x.count(4));
        Check.same("the weight stays", 1, () -> x.thing(0, 0));
    }

    private static void status() {
        Check.sentence("STATUS: how many calls were refused: 0 TEXTS with a FAULT, 1 GIFTS.");
        HeavyGifts x = new HeavyGifts();
        for (int i = 1; i <= 100; i++) {
            int many = i;
            Check.same("a text", 1, () -> Check.tell(x, ";"));
            Check.same("texts", many, () -> x.count(7));
        }
        for (int i = 1; i <= 100; i++) {
            x.give(0, 0, 0, 0);
        }
        Check.same("gifts", 100, () -> x.count(8));
        Check.same("texts", 100, () -> x.count(7));
        Check.illegal("what throws", () -> x.town(1));
        Check.same("judge", 1, () -> x.judge(0, 0, 0, 0));
        Check.same("no feed, undo, days", -1, x::undo);
        Check.same("texts", 100, () -> x.count(7));
        Check.same("gifts", 100, () -> x.count(8));
    }

    private static void imageKeeps() {
        Check.sentence("AN IMAGE keeps who HAS and OWES what, SAND, WEIGHTS, THE BOOK, the DAY, STATUS (not the ORDER).");
        HeavyGifts x = Twins.rich();
        x.image();
        HeavyGifts y = Twins.rich();
        y.image();
        Check.same("undo", 1, y::undo);
        Check.same("a gift", 0, () -> y.give(1, 5, 0, 0));
        y.days(2);
        y.give(9, 9, 9, 9);
        Check.same("restore", 1, () -> y.restore() ? 1 : 0);
        Check.same("all is as it was", 1, () -> Twins.seen(x).equals(Twins.seen(y)) ? 1 : 0);
        Check.same("undo", 1, y::undo);
        Check.same("undo", 0, y::undo);
        Check.same("what was owed", 8, () -> y.person(0, 2));
        Check.same("restore once more", 1, () -> y.restore() ? 1 : 0);
        Check.same("all is as it was", 1, () -> Twins.seen(x).equals(Twins.seen(y)) ? 1 : 0);
        HeavyGifts z = Twins.rich();
        Check.same("2 alone owes", 1, () -> z.week(0));
        Check.same("faults and tape", 1, () -> z.town(1));
        Check.feed(z, "abc");
        Check.same("restore", 1, () -> z.restore() ? 1 : 0);
        Check.same("the order is not of it", 2, () -> z.order(0));
        Check.noSuch("the order is not of it", () -> z.order(1));
        Check.same("the tape is not of it", 20, () -> z.count(6));
        Check.same("nor the fault's place", 0, z::fault);
        Check.same("texts refused then", 1, () -> z.count(7));
    }

    private static void imageInPlace() {
        Check.sentence("Promise 25: AN IMAGE is kept, in place of another one.");
        HeavyGifts x = Check.town(TWO + "thing 5 1 0;owes 0 5;");
        x.image();
        x.days(1);
        x.image();
        x.days(1);
        Check.same("restore", 1, () -> x.restore() ? 1 : 0);
        Check.same("the later one", 1, () -> x.count(4));
        Check.same("its book", 2, () -> x.count(5));
        Check.same("once more", 1, () -> x.restore() ? 1 : 0);
        Check.same("the later one still", 1, () -> x.count(4));
        HeavyGifts none = new HeavyGifts();
        none.image();
        Check.same("of nothing", 1, () -> none.restore() ? 1 : 0);
    }

    private static void imageOfAFullBook() {
        Check.sentence("Promise 26: It is as the IMAGE again: true.");
        HeavyGifts x = GiftEdgesTest.withFullBook();
        Check.same("full", 200, () -> x.count(5));
        Check.same("restore the empty one", 1, () -> x.restore() ? 1 : 0);
        Check.same("empty", 0, () -> x.count(5));
        Check.same("nothing to undo", -1, x::undo);
        Check.noSuch("no gift", () -> x.gift(0, 0));
        HeavyGifts y = GiftEdgesTest.withFullBook();
        y.image();
        for (int i = 0; i < 200; i++) {
            y.undo();
        }
        Check.same("restore the full one", 1, () -> y.restore() ? 1 : 0);
        Check.same("full", 200, () -> y.count(5));
        Check.same("its last gift", 1, () -> y.gift(199, 0));
        Check.same("7", 7, () -> y.give(0, 1, 0, 1));
        Check.same("undo", 199, y::undo);
    }

    private static void restoreWithout() {
        Check.sentence("Promise 26: False: there is none.");
        Twins.changesNothing("a new object", HeavyGifts::new, 0, x -> x.restore() ? 1 : 0);
        Twins.changesNothing("none was kept", () -> {
            HeavyGifts x = new HeavyGifts();
            Check.tell(x, TWO + "thing 5 1 0;owes 0 5;");
            x.days(1);
            x.week(0);
            return x;
        }, 0, x -> x.restore() ? 1 : 0);
        Twins.changesNothing("it is gone by a town", () -> {
            HeavyGifts x = Twins.rich();
            x.town(40);
            return x;
        }, 0, x -> x.restore() ? 1 : 0);
        HeavyGifts x = Twins.richWithoutTape();
        Check.same("a text with a fault", 1, () -> Check.tell(x, "x"));
        Check.same("leaves it", 1, () -> x.restore() ? 1 : 0);
    }
}
