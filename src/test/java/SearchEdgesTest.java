/** The sentences of the terms' third part and of promises 15 to 18 that name an edge: a test for each of them. */
public final class SearchEdgesTest {
    private static final String TWO = "person plain;person plain;";
    private static final String FIVE = "person plain;".repeat(5);
    /* Of these two no order is found, by 20000 tries and by one more. */
    private static final String ALL_20000 = "person sand 5 plain;person plain;person sand 4 plain;person plain;"
            + "person sand 1 plain;thing 1 1 3;thing 1 1 1;thing 1 1 1;thing 1 1 1;thing 1 1 4;thing 1 1 4;thing 1 1 1;"
            + "owes 0 900 to 3;owes 1 3;owes 2 2;owes 3 2 to 4;owes 4 1;within 2;";
    private static final String ALL_20001 = FIVE + "thing 1 1 1;thing 1 1 4;thing 1 1 2;thing 1 1 1;thing 1 1 4;"
            + "thing 1 1 2;thing 1 1 4;owes 0 2;owes 1 2;owes 2 2;owes 3 3 to 4;owes 4 3 to 2;within 2;";
    /* Of these two the last one of so many tries finds an order. */
    private static final String FOUND_20000 = "person sand 1 plain;person plain;person plain;person plain;person plain;"
            + "thing 1 1 3;thing 1 1 2;thing 1 1 3;thing 1 1 3;thing 1 1 1;thing 1 1 1;thing 1 1 0;thing 1 1 3;"
            + "thing 1 1 3;thing 1 1 4;thing 1 1 3;thing 1 1 2;owes 0 2;owes 1 5;owes 2 2;owes 3 3;owes 4 1;within 1;";
    private static final String FOUND_20001 = "person sand 4 plain;person plain;person plain;person plain;person plain;"
            + "thing 3 1 0;thing 3 1 4;thing 1 1 2;thing 3 1 4;thing 1 1 3;thing 2 1 4;thing 2 1 3;thing 1 1 4;"
            + "thing 1 1 4;thing 3 1 1;thing 3 1 1;thing 1 1 3;"
            + "owes 0 6 to 1;owes 1 3;owes 2 6;owes 3 3;owes 4 10;within 1;";

    public static void main(String[] args) {
        nobodyOwes();
        everybodyOwes();
        eachOnce();
        behindIt();
        oneTryForEachSet();
        moreThan20000();
        theMost();
        weekChangesTheOrder();
        orderIsKept();
        orderEnds();
        getZero();
        getNone();
        fewestGifts();
        getOnceMore();
        moreThan1000();
        statesAlikeButForOne();
        noGiftWhereHeHasIt();
        getThrows();
        partsOfADrachm();
        cutHelpsWhom();
        oneOrTheOther();
        firstCut();
        cutThrows();
        Check.end();
    }

    private static void week(String text, int all, int most, int tries, int... order) {
        HeavyGifts x = Check.town(text);
        Check.same("all", all, () -> x.week(0));
        Check.same("most", most, () -> x.week(1));
        Check.same("tries", tries, () -> x.week(2));
        kept(x, order);
    }

    private static void kept(HeavyGifts x, int... order) {
        for (int i = 0; i < order.length; i++) {
            int at = i;
            Check.same("order " + i, order[i], () -> x.order(at));
        }
        Check.noSuch("behind the order", () -> x.order(order.length));
    }

    private static void nobodyOwes() {
        Check.sentence("A WEEK: all who OWE now");
        week("", 1, 0, 0);
        week("person plain;", 1, 0, 0);
        week(TWO + "thing 1 1 0;", 1, 0, 0);
        HeavyGifts x = Check.town(TWO + "thing 4 1 0;owes 0 4;");
        Check.same("one", 1, () -> x.week(0));
        kept(x, 0);
    }

    /* The last row of all: only 5 can begin, and each can answer only when the one behind him has. */
    private static void everybodyOwes() {
        Check.sentence("A WEEK: all who OWE now");
        String six = "person plain;".repeat(6);
        week("person sand 1 plain;".repeat(6) + "owes 0 1;owes 1 1;owes 2 1;owes 3 1;owes 4 1;owes 5 1;", 1, 6, 6,
                0, 1, 2, 3, 4, 5);
        week(six + "thing 1 1 5;owes 0 1;owes 1 1 to 0;owes 2 1 to 1;owes 3 1 to 2;owes 4 1 to 3;owes 5 1 to 4;",
                1, 6, 6, 5, 4, 3, 2, 1, 0);
        week(six + "owes 0 1;owes 1 1;owes 2 1;owes 3 1;owes 4 1;owes 5 1;", 0, 0, 0);
    }

    private static void eachOnce() {
        Check.sentence("each once, answer what they OWE now");
        week(TWO + "thing 4 1 0;owes 0 4 to 1;", 1, 1, 1, 0);
        week(TWO + "thing 4 1 0;owes 0 4;owes 1 4;", 1, 2, 2, 0, 1);
        week(TWO + "thing 4 1 0;owes 0 4;owes 1 5;", 0, 1, 1);
    }

    private static void behindIt() {
        Check.sentence("(what they are given in it they HAVE, and OWE behind it)");
        week(TWO + "thing 4 1 0;thing 2 1 1;owes 0 4;owes 1 6;", 1, 2, 2, 0, 1);
        week(TWO + "thing 4 1 0;thing 9 1 1;owes 0 4;owes 1 9;", 1, 2, 2, 0, 1);
        week(TWO + "thing 4 1 1;thing 9 1 0;owes 0 13;owes 1 4;", 1, 2, 2, 1, 0);
        week("person sand 2 plain;person sand 3 plain;owes 0 2;owes 1 5;", 1, 2, 2, 0, 1);
    }

    private static void oneTryForEachSet() {
        Check.sentence("one TRY for each SET that FITS as it is looked at (of one whose turn it is)");
        week(TWO + "thing 4 1 0;thing 4 1 0;thing 4 1 0;owes 0 4;", 1, 1, 1, 0);
        week(TWO + "thing 4 1 0;thing 4 1 0;thing 4 1 0;owes 0 4;owes 1 99;", 0, 1, 3);
        week(TWO + "thing 4 1 1;thing 4 1 1;owes 0 99;owes 1 4;", 0, 1, 2);
        week(TWO + "thing 4 1 0;thing 3 1 0;thing 1 1 0;owes 0 4;owes 1 3;", 1, 2, 3, 0, 1);
        week(TWO + "thing 4 1 0;owes 0 5;", 0, 0, 0);
        week("person sand 1 plain;person plain;" + "thing 1 1 0;".repeat(12) + "owes 0 7;owes 1 900;within 9;",
                0, 1, 4096);
    }

    private static void moreThan20000() {
        Check.sentence("More than 20,000 TRIES: SPENT.");
        week(ALL_20000, 0, 4, 20000);
        week(ALL_20001, -2, -2, -2);
        week(FOUND_20000, 1, 5, 20000, 2, 3, 4, 0, 1);
        week(FOUND_20001, -2, -2, -2);
    }

    private static void theMost() {
        Check.sentence("the most who can answer in any ORDER");
        week("person plain;person plain;person plain;owes 0 9;owes 1 9;owes 2 9;", 0, 0, 0);
        week("person plain;person plain;person plain;thing 9 1 0;owes 0 9 to 1;owes 1 8;owes 2 8;", 0, 1, 1);
        week("person plain;person plain;person plain;thing 9 1 2;owes 0 9;owes 1 8;owes 2 9;", 0, 2, 2);
    }

    private static void weekChangesTheOrder() {
        Check.sentence("Promise 15: The first ORDER is kept. NoSuchElementException: another what.");
        for (int what = 0; what < 3; what++) {
            int w = what;
            Twins.changesOnly("2 alone owes now: week(" + w + ")", Twins::rich, 1, x -> x.week(w),
                    "order(0)", "order(1)");
        }
        for (int w : new int[] {-1, 3, Integer.MIN_VALUE, Integer.MAX_VALUE}) {
            Twins.changesNothing("week(" + w + ")", Twins::rich, Check.NO_SUCH, x -> x.week(w));
        }
    }

    private static void orderIsKept() {
        Check.sentence("Promise 15: The first ORDER is kept.");
        HeavyGifts none = Check.town(TWO + "owes 0 5;");
        Check.same("none is found", 0, () -> none.week(0));
        kept(none);
        HeavyGifts x = Check.town(TWO + "thing 4 1 0;owes 0 4;owes 1 9;");
        Check.same("a gift", 0, () -> x.give(0, 1, 0, 1));
        Check.same("1 owes 4", 1, () -> x.week(2));
        kept(x, 1);
        Check.same("undo", 0, x::undo);
        Check.same("none is found", 0, () -> x.week(0));
        kept(x, 1);
        Check.same("spent", -2, () -> spentBehindAnOrder().week(1));
        kept(spentBehindAnOrder(), 1, 2, 3, 4, 5);
    }

    /* An order is found while 5 owes what 0 gave him; when that is undone he owes 900, and all ways are tried. */
    private static HeavyGifts spentBehindAnOrder() {
        HeavyGifts x = Check.town("person plain;person plain;person plain;person sand 4 plain;person plain;"
                + "person plain;thing 1 1 2;thing 1 1 2;thing 3 1 0;thing 4 1 1;thing 4 1 2;thing 3 1 0;"
                + "thing 3 1 1;thing 2 1 0;thing 1 1 5;thing 1 1 1;"
                + "owes 0 2;owes 1 4;owes 2 2;owes 3 4;owes 4 3;owes 5 900;within 2;");
        x.give(0, 128, 0, 5);
        x.week(0);
        x.undo();
        x.week(0);
        return x;
    }

    private static void orderEnds() {
        Check.sentence("Promise 16: NoSuchElementException: there is none.");
        HeavyGifts six = Check.town("person sand 1 plain;".repeat(6)
                + "owes 0 1;owes 1 1;owes 2 1;owes 3 1;owes 4 1;owes 5 1;");
        Check.noSuch("no week yet", () -> six.order(0));
        six.week(2);
        Check.same("the first", 0, () -> six.order(0));
        Check.same("the last", 5, () -> six.order(5));
        for (int i : new int[] {-1, 6, 7, Integer.MIN_VALUE, Integer.MAX_VALUE}) {
            Check.noSuch("order(" + i + ")", () -> six.order(i));
        }
        for (int i : new int[] {-1, 2, 5, 6, Integer.MIN_VALUE, Integer.MAX_VALUE}) {
            Twins.changesNothing("order(" + i + ")", Twins::rich, Check.NO_SUCH, x -> x.order(i));
        }
        Check.same("of two the last", 2, () -> Twins.rich().order(1));
    }

    private static void get(int due, int person, int thing, String text) {
        HeavyGifts x = Check.town(text);
        Check.same("get(" + person + ", " + thing + ") in " + text, due, () -> x.get(person, thing));
    }

    private static void getZero() {
        Check.sentence("Promise 17: the fewest GIFTS (0: he HAS it)");
        get(0, 0, 0, "person plain;thing 1 1 0;");
        get(0, 1, 11, TWO + "thing 1 1 0;".repeat(11) + "thing 1 1 1;owes 0 1;owes 1 1;");
        get(0, 0, 0, TWO + "thing 1 1 0;".repeat(12) + "owes 0 6;within 9;");
    }

    private static void getNone() {
        Check.sentence("Promise 17: NONE: it can't be");
        get(-1, 0, 0, TWO + "thing 1 1 1;");
        get(-1, 0, 0, TWO + "thing 2 1 1;owes 1 1;");
        get(-1, 0, 1, TWO + "thing 1 1 1;thing 1 1 1;owes 1 1;");
        get(-1, 0, 0, "person plain;person plain;person plain;thing 1 1 1;owes 1 1 to 2;");
        get(-1, 0, 0, "person plain;person wait 1;thing 1 1 1;owes 1 1;");
        get(-1, 0, 0, "person plain;person aim 0;thing 1 1 1;owes 1 1;");
    }

    private static void fewestGifts() {
        Check.sentence("The fewest GIFTS till he HAS it.");
        get(1, 0, 0, TWO + "thing 1 1 1;owes 1 1;");
        String six = "person plain;".repeat(6);
        get(5, 5, 0, six + "law anyone;thing 1 1 0;owes 0 1;");
        get(1, 1, 0, six + "law anyone;thing 1 1 0;owes 0 1;");
        String three = "person plain;person plain;person least;thing 1 9 0;thing 1 0 2;";
        get(2, 0, 1, three + "owes 0 1;");
        get(-1, 0, 1, three + "owes 0 1 to 1;");
        get(2, 2, 0, "person least;person plain;person plain;thing 1 0 0;thing 1 9 2;owes 2 1;");
        get(-1, 0, 2, "person plain;person wait 9;person least;thing 1 9 0;thing 1 9 0;thing 1 0 2;owes 0 1 to 1;");
    }

    private static void getOnceMore() {
        Check.sentence("TO GET a THING: GIFTS one behind the other");
        String spent = TWO + "thing 1 1 1;" + "thing 1 1 0;".repeat(11) + "owes 0 5;within 1;law anyone;";
        String near = "law anyone;person plain;person plain;person plain;thing 1 1 0;owes 0 1;";
        HeavyGifts x = Check.town(spent);
        Check.same("spent", -2, () -> x.get(0, 0));
        Check.same("spent once more", -2, () -> x.get(0, 0));
        Check.same("he has it", 0, () -> x.get(0, 1));
        Check.same("another town", 0, () -> Check.tell(x, near));
        for (int i = 0; i < 2; i++) {
            Check.same("two gifts", 2, () -> x.get(2, 0));
            Check.same("one gift", 1, () -> x.get(1, 0));
            Check.same("none", 0, () -> x.get(0, 0));
        }
        Check.same("a gift", 0, () -> x.give(0, 1, 0, 1));
        Check.same("one gift", 1, () -> x.get(2, 0));
        Check.same("two gifts", 2, () -> x.get(0, 0));
        Check.same("an old town", 0, () -> Check.tell(x, spent));
        Check.same("spent", -2, () -> x.get(0, 0));
        Check.same("one who owes", 0, () -> Check.tell(x, TWO + "thing 1 1 1;owes 1 1;"));
        Check.same("one gift", 1, () -> x.get(0, 0));
        Check.same("nobody owes", 0, () -> Check.tell(x, TWO + "thing 1 1 1;"));
        Check.same("it can't be any more", -1, () -> x.get(0, 0));
    }

    /* 1 never gives, for he waits: the first state, and one for each set that 0 may give him. */
    private static void moreThan1000() {
        Check.sentence("SPENT: if more than 1000 states .. can be come to at all .. the first state counted)");
        String one = "thing 1 1 1;owes 0 ";
        String sets999 = "person sand 18 plain;person wait 9;" + "thing 2 1 0;".repeat(3) + "thing 3 1 0;".repeat(7);
        Check.same("999 sets", 999, () -> Check.town(sets999 + one + "22;").sets(0));
        get(-1, 0, 10, sets999 + one + "22;");
        String sets1000 = "person sand 12 plain;person wait 9;" + "thing 1 1 0;".repeat(2) + "thing 2 1 0;".repeat(8);
        Check.same("1000 sets", 1000, () -> Check.town(sets1000 + one + "15;").sets(0));
        get(-2, 0, 10, sets1000 + one + "15;");
        get(-2, 0, 10, "person sand 99 plain;person wait 9;person wait 9;person wait 9;person wait 9;person wait 9;"
                + "thing 1 1 0;thing 1 1 0;thing 2 1 0;thing 4 1 0;thing 8 1 0;thing 16 1 0;thing 32 1 0;thing 64 1 0;"
                + "thing 1 1 1;thing 1 1 1;thing 1 1 1;owes 0 100;");
        get(-1, 0, 10, "person sand 6 plain;person wait 9;person wait 9;person wait 9;"
                + "thing 1 1 0;".repeat(7) + "thing 3 1 0;".repeat(2) + "thing 1 1 1;thing 1 1 1;owes 0 7;");
        String law = "law anyone;";
        get(3, 0, 2, law + "person sand 5 plain;person least;person sand 2 plain;thing 1 1 1;thing 1 1 1;thing 1 1 2;"
                + "thing 1 1 0;thing 1 1 0;owes 0 2;owes 1 1;owes 2 2;");
        get(-2, 0, 3, law + "person sand 4 plain;person sand 3 plain;person least;thing 1 1 0;thing 1 1 0;thing 1 1 0;"
                + "thing 1 1 2;thing 1 1 0;owes 0 3;owes 1 1;owes 2 1;");
    }

    /* In each of these towns some states are alike but for what one person has or owes (0, 0, 1 and 3, 2, 4, 5),
       and lie so that a class which left him out where it compares them would answer otherwise. */
    private static void statesAlikeButForOne() {
        Check.sentence("states (who HAS what, how much SAND, who OWES what to whom)");
        get(5, 1, 4, "law anyone;person fewest;person sand 2 plain;thing 1 2 1;thing 2 1 1;thing 1 2 0;thing 1 2 0;"
                + "thing 2 0 0;thing 2 0 1;thing 2 0 0;owes 0 2;owes 1 1;within 2;");
        get(4, 1, 0, "person plain;person plain;person plain;person least;person sand 2 plain;person plain;"
                + "thing 1 1 5;thing 2 1 2;thing 3 1 0;owes 0 4;owes 1 3;owes 2 7;owes 4 8;owes 5 3;within 3;");
        get(-2, 0, 0, "law anyone;person sand 7 plain;person sand 2 plain;person plain;person plain;"
                + "person sand 2 plain;person plain;thing 1 1 2;"
                + "owes 0 2;owes 1 2;owes 2 1;owes 3 1;owes 4 3;owes 5 2;");
        get(-2, 0, 1, "law anyone;person sand 2 plain;person plain;person plain;person plain;person sand 1 plain;"
                + "person plain;thing 1 1 1;thing 1 1 3;thing 1 1 0;owes 1 2;owes 4 1;within 1;");
        get(-2, 5, 0, "law anyone;person plain;person fewest;person aim 0;person sand 7 plain;person sand 8 plain;"
                + "person sand 3 plain;thing 2 1 3;owes 1 3;owes 2 5;owes 3 2 to 2;owes 4 7;within 1;");
        get(-2, 5, 3, "person fewest;person sand 4 aim 2;person plain;person plain;person plain;person sand 6 plain;"
                + "thing 1 1 4;thing 1 1 0;thing 1 1 3;thing 1 1 4;owes 2 1;owes 3 3 to 5;owes 4 2;owes 5 1;within 3;");
    }

    /* When 1 has given him his thing, 0 could answer it by 1254 sets of others and more. */
    private static void noGiftWhereHeHasIt() {
        Check.sentence("no GIFT being made where he HAS it already");
        String text = TWO + "thing 5 1 1;" + "thing 1 1 0;".repeat(11) + "owes 1 5;within 1;";
        get(1, 0, 0, text);
        HeavyGifts x = Check.town(text);
        Check.same("a gift", 0, () -> x.give(1, 1, 0, 0));
        Check.same("he has it", 0, () -> x.get(0, 0));
        Check.same("sets of 0", 1 + 11 + 330 + 462 + 462, () -> x.sets(0));
    }

    private static void getThrows() {
        Check.sentence("Promise 17: get .. throws NoSuchElementException");
        for (int wrong : new int[] {-1, 4, 12, Integer.MIN_VALUE, Integer.MAX_VALUE}) {
            Twins.changesNothing("person " + wrong, Twins::rich, Check.NO_SUCH, x -> x.get(wrong, 0));
            Twins.changesNothing("thing " + wrong, Twins::rich, Check.NO_SUCH, x -> x.get(0, wrong));
        }
        Twins.changesNothing("no person 3", Twins::rich, Check.NO_SUCH, x -> x.get(3, 3));
        Twins.changesNothing("thing 3", Twins::rich, 0, x -> x.get(2, 3));
        Twins.changesNothing("it waits", Twins::rich, -1, x -> x.get(0, 3));
    }

    private static void cut(int many, int first, String text) {
        HeavyGifts x = Check.town(text);
        Check.same("cuts in " + text, many, () -> x.cut(0, 0));
        Check.same("first cut in " + text, first, () -> x.cut(0, 1));
    }

    private static void partsOfADrachm() {
        Check.sentence("A CUT of a THING into two parts (of a drachm or more each)");
        cut(0, -1, TWO + "thing 1 1 0;owes 0 2;");
        cut(1, 1, TWO + "thing 2 1 0;owes 0 1;");
        cut(1, 1, TWO + "thing 3 1 0;owes 0 1;");
        cut(1, 1, TWO + "thing 3 1 0;owes 0 2;");
        cut(0, -1, TWO + "thing 3 1 0;owes 0 4;");
        cut(1, 1, TWO + "thing 99 1 0;owes 0 98;");
        cut(1, 49, TWO + "thing 99 1 0;owes 0 50;");
    }

    private static void cutHelpsWhom() {
        Check.sentence("helps one who OWES, and whom no SET FITS, if one part or the other of a THING that he HAS,"
                + " in place of it, would make one FIT");
        cut(0, -1, TWO + "thing 8 1 0;");
        cut(0, -1, TWO + "thing 8 1 0;owes 1 4;");
        cut(0, -1, TWO + "thing 8 1 0;thing 4 1 0;owes 0 4;");
        cut(0, -1, TWO + "thing 8 1 1;owes 0 4;");
        cut(0, -1, TWO + "thing 8 1 1;owes 0 1;");
        cut(0, -1, TWO + "owes 0 4;");
        cut(0, -1, "person sand 4 plain;person plain;thing 8 1 0;owes 0 4;");
        cut(0, -1, TWO + "thing 8 1 0;owes 0 11;");
        cut(1, 3, TWO + "thing 8 1 0;thing 8 1 1;owes 0 3;");
        cut(2, 3, TWO + "thing 8 1 0;thing 8 1 0;owes 0 11;");
        cut(0, -1, "person plain;thing 8 1 0;owes 0 4;");
        cut(3, 2, "person sand 2 plain;person plain;thing 8 1 0;owes 0 4;");
        cut(1, 1, TWO + "thing 12 1 0;owes 0 1;");
        cut(2, 1, TWO + "thing 12 1 0;owes 0 1;within 1;");
        cut(6, 1, TWO + "thing 12 1 0;owes 0 1;within 9;");
    }

    private static void oneOrTheOther() {
        Check.sentence("how many CUTS (a first part of no more than the other one)");
        cut(1, 4, TWO + "thing 8 1 0;owes 0 4;");
        cut(1, 3, TWO + "thing 8 1 0;owes 0 5;");
        cut(1, 1, TWO + "thing 8 1 0;owes 0 7;");
        cut(1, 4, TWO + "thing 9 1 0;owes 0 5;");
        cut(1, 4, TWO + "thing 9 1 0;owes 0 4;");
        cut(2, 4, TWO + "thing 11 1 0;owes 0 5;within 1;");
    }

    private static void firstCut() {
        Check.sentence("the first: least THING, least first part. .. Promise 18: 100 by the THING and its first part; NONE");
        cut(12, 1, TWO + "thing 9 1 0;".repeat(12) + "owes 0 1;");
        cut(1, 1149, TWO + "thing 1 1 1;".repeat(11) + "thing 99 1 0;owes 0 49;");
        cut(2, 103, TWO + "thing 1 1 1;thing 8 1 0;thing 20 1 0;owes 0 5;");
    }

    private static void cutThrows() {
        Check.sentence("Promise 18: NoSuchElementException: also another what.");
        for (int w : new int[] {-1, 2, Integer.MIN_VALUE, Integer.MAX_VALUE}) {
            Twins.changesNothing("cut's what " + w, Twins::rich, Check.NO_SUCH, x -> x.cut(0, w));
        }
        Twins.changesNothing("cuts", Twins::rich, 0, x -> x.cut(2, 0));
        Twins.changesNothing("first cut", Twins::rich, -1, x -> x.cut(0, 1));
    }
}
