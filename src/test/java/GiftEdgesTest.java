/** The sentences of the terms' second part and of promises 8 to 14 that name an edge: a test for each of them. */
public final class GiftEdgesTest {
    private static final int[] NOBODY = {-1, 2, 6, Integer.MIN_VALUE, Integer.MAX_VALUE};
    private static final String TWO = "person plain;person plain;";

    public static void main(String[] args) {
        asHeavy();
        oneDrachmAtLeast();
        heaviestOfAll();
        owesWhatItWeighs();
        owesNobodyThen();
        inPlaceOfWhatHeOwed();
        trouble1Person();
        trouble1Thing();
        trouble1Sand();
        trouble2();
        trouble3Things();
        trouble3Sand();
        trouble4();
        trouble5And6();
        leastTrouble();
        littleSand();
        emptySet();
        likeOnes();
        aimWithout();
        waitDay();
        goesToNext();
        goesByAim();
        townOfOne();
        gapOfNearest();
        gapEnds();
        giveRefused();
        fullBook();
        judged();
        undone();
        giftsOfTheBook();
        howManySets();
        choiceNone();
        gapNone();
        Check.end();
    }

    private static void both(HeavyGifts x, int due, int person, int things, int sand, int other) {
        String call = "(" + person + ", " + things + ", " + sand + ", " + other + ")";
        Check.same("judge" + call, due, () -> x.judge(person, things, sand, other));
        Check.same("give" + call, due, () -> x.give(person, things, sand, other));
        if (due == 0) {
            x.undo();
        }
    }

    private static void asHeavy() {
        Check.sentence("all together as heavy as what he OWES, WITHIN so many drachms");
        for (int within : new int[] {0, 1, 9}) {
            HeavyGifts x = Check.town("person sand 99 plain;person plain;owes 0 50;within " + within + ";");
            both(x, 5, 0, 0, 50 - within - 1, 1);
            both(x, 0, 0, 0, 50 - within, 1);
            both(x, 0, 0, 0, 50, 1);
            both(x, 0, 0, 0, 50 + within, 1);
            both(x, 6, 0, 0, 50 + within + 1, 1);
        }
    }

    private static void oneDrachmAtLeast() {
        Check.sentence("1 drachm at least");
        for (int owed : new int[] {1, 8, 9, 10}) {
            HeavyGifts x = Check.town("person sand 99 plain;person plain;owes 0 " + owed + ";within 9;");
            both(x, 5, 0, 0, 0, 1);
            both(x, 0, 0, 0, 1, 1);
            both(x, 0, 0, 0, owed + 9, 1);
            both(x, 6, 0, 0, owed + 10, 1);
            Check.same("the least sand", 1, () -> x.choice(0, 1));
        }
        HeavyGifts eleven = Check.town("person sand 99 plain;person plain;owes 0 11;within 9;");
        both(eleven, 5, 0, 0, 1, 1);
        both(eleven, 0, 0, 0, 2, 1);
        HeavyGifts nothing = Check.town(TWO + "owes 0 1;within 9;");
        both(nothing, 5, 0, 0, 0, 1);
        Check.same("nothing is no gift", 0, () -> nothing.sets(0));
    }

    /* Ten things weigh 990, nine of them 891; what is given weighs up to 1008, more than a text can tell. */
    private static void heaviestOfAll() {
        Check.sentence("OWES just what it weighs");
        HeavyGifts x = Check.town("person sand 99 plain;person plain;" + "thing 99 0 0;".repeat(12)
                + "owes 0 999;within 9;law anyone;");
        both(x, 5, 0, 0x1ff, 98, 1);
        both(x, 0, 0, 0x1ff, 99, 1);
        both(x, 0, 0, 0x3ff, 0, 1);
        both(x, 6, 0, 0x3ff, 19, 1);
        both(x, 6, 0, 0xfff, 99, 1);
        Check.same("the heaviest", 0, () -> x.give(0, 0x3ff, 18, 1));
        Check.same("owes 1008", 1008, () -> x.person(1, 2));
        Check.same("sand", 18, () -> x.person(1, 1));
        Check.same("and answers it", 0, () -> x.give(1, 0x3ff, 9, 0));
        Check.same("999", 999, () -> x.person(0, 2));
        HeavyGifts sand = Check.town("person sand 99 plain;person sand 99 plain;owes 0 99;");
        Check.same("99 grains", 0, () -> sand.give(0, 0, 99, 1));
        Check.same("198 grains", 198, () -> sand.person(1, 1));
        Check.same("none", 0, () -> sand.person(0, 1));
        both(sand, 6, 1, 0, 100, 0);
        both(sand, 6, 1, 0, 198, 0);
        both(sand, 3, 1, 0, 199, 0);
    }

    private static void owesWhatItWeighs() {
        Check.sentence("He OWES nothing then; who gets it HAS it all, and OWES just what it weighs,"
                + " to the giver or to ANYONE by LAW");
        for (int law = 0; law < 2; law++) {
            HeavyGifts x = Check.town("person sand 4 plain;person plain;person plain;thing 6 1 0;thing 1 1 0;"
                    + "owes 0 9;within 2;" + (law == 1 ? "law anyone;" : ""));
            Check.same("a gift of 7 and 4", 0, () -> x.give(0, 3, 4, 2));
            int[] giver = {0, 0, 0, -1, 0, 0, 0};
            int[] taker = {0, 4, 11, law == 1 ? -1 : 0, 3, 2, 7};
            for (int what = 0; what < 7; what++) {
                int w = what;
                Check.same("giver " + w, giver[w], () -> x.person(0, w));
                Check.same("taker " + w, taker[w], () -> x.person(2, w));
            }
        }
    }

    private static void owesNobodyThen() {
        Check.sentence("He OWES nothing then");
        HeavyGifts x = Check.town(TWO + "thing 6 1 0;owes 0 6 to 1;law anyone;");
        Check.same("a gift to whom he owes", 0, () -> x.give(0, 1, 0, 1));
        Check.same("owes nothing", 0, () -> x.person(0, 2));
        Check.same("to nobody", -1, () -> x.person(0, 3));
        Check.same("undone", 0, x::undo);
        Check.same("owes again", 6, () -> x.person(0, 2));
        Check.same("to 1 again", 1, () -> x.person(0, 3));
    }

    private static void inPlaceOfWhatHeOwed() {
        Check.sentence("in place of what he OWED");
        HeavyGifts x = Check.town("person plain;person plain;person plain;thing 6 1 0;owes 0 6;owes 1 999 to 2;");
        Check.same("a gift", 0, () -> x.give(0, 1, 0, 1));
        Check.same("owes 6", 6, () -> x.person(1, 2));
        Check.same("to 0", 0, () -> x.person(1, 3));
        Check.same("undone", 0, x::undo);
        Check.same("owes 999", 999, () -> x.person(1, 2));
        Check.same("to 2", 2, () -> x.person(1, 3));
    }

    private static void trouble1Person() {
        Check.sentence("1 there is no such PERSON");
        HeavyGifts x = Check.town(TWO + "thing 5 1 0;thing 5 1 1;owes 0 5;owes 1 5;");
        for (int p : NOBODY) {
            both(x, 1, p, 1, 0, 1);
            both(x, 1, 0, 1, 0, p);
        }
        both(x, 0, 0, 1, 0, 1);
        both(x, 0, 1, 2, 0, 0);
    }

    private static void trouble1Thing() {
        Check.sentence("1 there is no such .. THING");
        HeavyGifts x = Check.town(TWO + "thing 5 1 0;".repeat(2) + "owes 0 5;");
        both(x, 0, 0, 1, 0, 1);
        both(x, 0, 0, 2, 0, 1);
        for (int bit = 2; bit < 32; bit++) {
            both(x, 1, 0, 1 << bit, 0, 1);
            both(x, 1, 0, 1 << bit | 1, 0, 1);
        }
        both(x, 1, 0, -1, 0, 1);
        both(x, 1, 0, Integer.MAX_VALUE, 0, 1);
        HeavyGifts all = Check.town(TWO + "thing 1 1 0;".repeat(12) + "owes 0 12;");
        both(all, 0, 0, 4095, 0, 1);
        both(all, 1, 0, 4096, 0, 1);
        both(all, 1, 0, 4096 + 4095, 0, 1);
        HeavyGifts none = Check.town("person sand 5 plain;person plain;owes 0 5;");
        both(none, 0, 0, 0, 5, 1);
        both(none, 1, 0, 1, 5, 1);
    }

    private static void trouble1Sand() {
        Check.sentence("1 .. SAND below 0");
        HeavyGifts x = Check.town("person sand 3 plain;person plain;thing 5 1 0;owes 0 5;within 3;");
        both(x, 1, 0, 1, -1, 1);
        both(x, 1, 0, 1, Integer.MIN_VALUE, 1);
        both(x, 0, 0, 1, 0, 1);
    }

    private static void trouble2() {
        Check.sentence("2 he OWES nothing");
        HeavyGifts x = Check.town("person sand 9 plain;person plain;thing 5 1 0;");
        both(x, 2, 0, 1, 0, 1);
        both(x, 2, 0, 0, 0, 1);
        both(x, 2, 1, 0, 0, 0);
        HeavyGifts given = Check.town(TWO + "thing 5 1 0;thing 5 1 0;owes 0 5;");
        Check.same("a gift", 0, () -> given.give(0, 1, 0, 1));
        both(given, 2, 0, 2, 0, 1);
    }

    private static void trouble3Things() {
        Check.sentence("3 he HAS not all these THINGS");
        HeavyGifts x = Check.town(TWO + "thing 2 1 0;thing 3 1 1;thing 3 1 0;owes 0 5;");
        both(x, 3, 0, 2, 0, 1);
        both(x, 3, 0, 3, 0, 1);
        both(x, 3, 0, 7, 0, 1);
        both(x, 0, 0, 5, 0, 1);
    }

    private static void trouble3Sand() {
        Check.sentence("3 he HAS not .. so much SAND");
        HeavyGifts x = Check.town("person sand 4 plain;person sand 99 plain;owes 0 5;within 5;");
        both(x, 0, 0, 0, 4, 1);
        both(x, 3, 0, 0, 5, 1);
        both(x, 3, 0, 0, Integer.MAX_VALUE, 1);
    }

    private static void trouble4() {
        Check.sentence("4 it is he himself, or another than who is owed");
        HeavyGifts x = Check.town("person plain;person plain;person plain;thing 5 1 0;thing 5 1 1;owes 0 5 to 2;owes 1 5;");
        both(x, 4, 0, 1, 0, 0);
        both(x, 4, 0, 1, 0, 1);
        both(x, 0, 0, 1, 0, 2);
        both(x, 0, 1, 2, 0, 0);
        both(x, 4, 1, 2, 0, 1);
        both(x, 0, 1, 2, 0, 2);
    }

    private static void trouble5And6() {
        Check.sentence("5 too light; 6 too heavy.");
        HeavyGifts x = Check.town("person sand 3 plain;person plain;thing 5 1 0;thing 7 1 0;owes 0 7;");
        both(x, 5, 0, 0, 0, 1);
        both(x, 5, 0, 0, 3, 1);
        both(x, 5, 0, 1, 1, 1);
        both(x, 0, 0, 1, 2, 1);
        both(x, 6, 0, 1, 3, 1);
        both(x, 0, 0, 2, 0, 1);
        both(x, 6, 0, 2, 1, 1);
        both(x, 6, 0, 3, 3, 1);
    }

    /* Each row has the trouble that it tells and, as far as can be, all greater ones. */
    private static void leastTrouble() {
        Check.sentence("TROUBLES of a GIFT, the least");
        HeavyGifts x = Check.town("person plain;person plain;person plain;thing 5 1 0;thing 5 1 1;owes 0 9 to 1;");
        both(x, 1, 2, 2, -1, 2);
        both(x, 1, 2, 6, 7, 2);
        both(x, 1, 3, 1, 7, 3);
        both(x, 2, 2, 1, 0, 2);
        both(x, 2, 2, 0, 1, 2);
        both(x, 3, 0, 2, 0, 0);
        both(x, 3, 0, 0, 1, 0);
        both(x, 3, 0, 3, 0, 2);
        both(x, 4, 0, 1, 0, 0);
        both(x, 4, 0, 1, 0, 2);
        both(x, 5, 0, 1, 0, 1);
    }

    private static void littleSand() {
        Check.sentence("as little of his SAND as is needed");
        HeavyGifts x = Check.town("person sand 9 plain;person plain;thing 5 1 0;owes 0 14;");
        Check.same("all of it", 9, () -> x.choice(0, 1));
        Check.same("one set", 1, () -> x.sets(0));
        HeavyGifts less = Check.town("person sand 8 plain;person plain;thing 5 1 0;owes 0 14;");
        Check.same("a drachm is wanting", 0, () -> less.sets(0));
        HeavyGifts within = Check.town("person sand 4 plain;person plain;thing 5 1 0;owes 0 14;within 9;");
        Check.same("the thing is enough", 1, () -> within.choice(0, 0));
        Check.same("none is needed", 0, () -> within.choice(0, 1));
        HeavyGifts some = Check.town("person sand 5 plain;person plain;thing 4 1 0;owes 0 14;within 9;");
        Check.same("sand alone is enough", 0, () -> some.choice(0, 0));
        Check.same("5 are needed, by within", 5, () -> some.choice(0, 1));
        HeavyGifts heavy = Check.town("person sand 9 plain;person plain;thing 15 1 0;owes 0 14;within 1;");
        Check.same("heavier than owed: no sand", 0, () -> heavy.choice(0, 1));
        Check.same("a set", 1, () -> heavy.choice(0, 0));
    }

    private static void emptySet() {
        Check.sentence("(an empty one, too)");
        HeavyGifts x = Check.town("person sand 5 plain;person plain;thing 5 1 0;owes 0 5;");
        Check.same("none, and the thing", 2, () -> x.sets(0));
        Check.same("the empty one is the least", 0, () -> x.choice(0, 0));
        Check.same("by sand", 5, () -> x.choice(0, 1));
        HeavyGifts without = Check.town("person sand 5 plain;person plain;owes 0 5;");
        Check.same("without things", 1, () -> without.sets(0));
        HeavyGifts less = Check.town("person sand 4 plain;person plain;owes 0 5;");
        Check.same("too little sand", 0, () -> less.sets(0));
    }

    private static void likeOnes() {
        Check.sentence("of like ones the least");
        String things = "thing 3 4 0;thing 2 4 0;thing 2 4 0;thing 1 0 0;thing 1 0 0;thing 3 4 0;";
        HeavyGifts least = Check.town("person least;person plain;" + things + "owes 0 3;");
        Check.same("worth 4 each: 3, 2 and 1 (four times), 3", 6, () -> least.sets(0));
        Check.same("the least", 1, () -> least.choice(0, 0));
        HeavyGifts fewest = Check.town("person fewest;person plain;" + things + "owes 0 3;");
        Check.same("two of one thing", 1, () -> fewest.choice(0, 0));
        HeavyGifts twos = Check.town("person fewest;person plain;thing 1 9 0;thing 1 9 0;thing 1 9 0;thing 2 0 0;"
                + "thing 2 9 0;owes 0 3;");
        Check.same("1 and 2", 9, () -> twos.choice(0, 0));
        HeavyGifts worth = Check.town("person least;person plain;thing 3 2 0;thing 3 1 0;thing 3 0 0;owes 0 3;");
        Check.same("of no worth", 4, () -> worth.choice(0, 0));
        HeavyGifts most = Check.town("person least;person plain;" + "thing 1 999 0;".repeat(12) + "owes 0 12;");
        Check.same("all, of the most worth", 4095, () -> most.choice(0, 0));
    }

    private static void aimWithout() {
        Check.sentence("aim: the least without the THING aimed at");
        String things = "thing 3 0 0;thing 3 0 0;".repeat(6);
        HeavyGifts first = Check.town("person aim 0;person plain;" + things + "owes 0 3;");
        Check.same("not 0", 2, () -> first.choice(0, 0));
        HeavyGifts last = Check.town("person aim 11;person plain;" + things + "owes 0 36;");
        Check.same("all fit", 1, () -> last.sets(0));
        Check.same("but not without 11", -1, () -> last.choice(0, 0));
        HeavyGifts other = Check.town("person aim 11;person plain;" + things + "owes 0 33;");
        Check.same("the other eleven", 2047, () -> other.choice(0, 0));
    }

    private static void waitDay() {
        Check.sentence("wait: none ahead of his DAY, then the least");
        HeavyGifts x = Check.town("person wait 1;person plain;thing 3 9 0;thing 3 0 0;owes 0 3;");
        Check.same("day 0", -1, () -> x.choice(0, 0));
        Check.same("sets fit all the same", 2, () -> x.sets(0));
        Check.same("he may be made to", 0, () -> x.judge(0, 1, 0, 1));
        x.days(1);
        Check.same("day 1", 1, () -> x.choice(0, 0));
    }

    private static void goesToNext() {
        Check.sentence("else to the next one by number (of the last one: 0)");
        for (int people = 2; people <= 6; people++) {
            StringBuilder owes = new StringBuilder();
            for (int p = 0; p < people; p++) {
                owes.append("owes ").append(p).append(" 1;");
            }
            HeavyGifts x = Check.town("person sand 1 plain;".repeat(people) + owes);
            for (int p = 0; p < people; p++) {
                int who = p;
                int due = p + 1 == people ? 0 : p + 1;
                Check.same(p + " of " + people, due, () -> x.choice(who, 2));
            }
        }
    }

    private static void goesByAim() {
        Check.sentence("It goes to whom he OWES; if to ANYONE: by aim to who HAS the THING aimed at,"
                + " if that is another one");
        String four = "person plain;person sand 1 aim 0;person plain;person plain;";
        Check.same("who has it", 3, () -> Check.town(four + "thing 1 1 3;owes 1 1;").choice(1, 2));
        Check.same("0 has it", 0, () -> Check.town(four + "thing 1 1 0;owes 1 1;").choice(1, 2));
        Check.same("he himself has it", 2, () -> Check.town(four + "thing 1 1 1;owes 1 1;").choice(1, 2));
        Check.same("nobody has it", 2, () -> Check.town(four + "owes 1 1;").choice(1, 2));
        Check.same("whom he owes", 0, () -> Check.town(four + "thing 1 1 3;owes 1 1 to 0;").choice(1, 2));
        HeavyGifts last = Check.town("person plain;person plain;person sand 1 aim 0;thing 1 1 2;owes 2 1;");
        Check.same("of the last one 0", 0, () -> last.choice(2, 2));
    }

    private static void townOfOne() {
        Check.sentence("In a TOWN of one no SET FITS.");
        HeavyGifts x = Check.town("person sand 5 plain;thing 5 1 0;thing 10 1 0;owes 0 5;");
        Check.same("sets", 0, () -> x.sets(0));
        Check.same("choice", -1, () -> x.choice(0, 0));
        Check.same("sand", -1, () -> x.choice(0, 1));
        Check.same("to whom", -1, () -> x.choice(0, 2));
        Check.same("himself", 4, () -> x.give(0, 1, 0, 0));
        Check.same("cuts", 0, () -> x.cut(0, 0));
        Check.same("first cut", -1, () -> x.cut(0, 1));
        Check.same("week", 0, () -> x.week(0));
        Check.same("the most", 0, () -> x.week(1));
        Check.same("tries", 0, () -> x.week(2));
        Check.same("round", 0, () -> x.round(0, 0));
        Check.same("round's last", 0, () -> x.round(0, 1));
        Check.same("days", 0, () -> x.days(60));
        Check.same("get", 0, () -> x.get(0, 0));
        HeavyGifts two = Check.town("person sand 5 plain;person plain;thing 5 1 0;thing 10 1 0;owes 0 5;");
        Check.same("of two", 2, () -> two.sets(0));
    }

    private static void gap(int due, String text) {
        HeavyGifts x = Check.town(text);
        Check.same("gap of " + text, due, () -> x.gap(0));
    }

    private static void gapOfNearest() {
        Check.sentence("GAP of one who OWES: by how much the nearest weight of 1 or more that he can make of THINGS"
                + " and SAND is off what he OWES, beyond WITHIN");
        gap(3, TWO + "thing 4 1 0;thing 20 1 0;owes 0 7;");
        gap(3, TWO + "thing 4 1 0;thing 10 1 0;owes 0 7;");
        gap(2, TWO + "thing 4 1 0;thing 9 1 0;owes 0 7;");
        gap(1, TWO + "thing 4 1 0;thing 9 1 0;owes 0 7;within 1;");
        gap(1, TWO + "thing 3 1 0;thing 3 1 0;owes 0 7;");
        gap(98, TWO + "thing 99 1 0;owes 0 1;");
        gap(89, TWO + "thing 99 1 0;owes 0 1;within 9;");
        gap(1, "person sand 3 plain;person plain;thing 4 1 0;owes 0 8;");
        gap(4, "person sand 3 plain;person plain;thing 11 1 0;owes 0 7;");
        gap(996, "person sand 3 plain;person plain;owes 0 999;");
        gap(1, TWO + "thing 2 1 0;owes 0 1;");
        gap(4, TWO + "thing 1 1 0;owes 0 5;");
        gap(4, "person sand 1 plain;person plain;owes 0 5;");
        gap(987, TWO + "thing 1 1 0;".repeat(12) + "owes 0 999;");
        gap(189, TWO + "thing 99 1 0;".repeat(8) + "owes 0 990;within 9;");
    }

    private static void gapEnds() {
        Check.sentence("(0, if some SET FITS; what he OWES, if he HAS nothing)");
        gap(0, TWO + "thing 7 1 0;owes 0 7;");
        gap(0, TWO + "thing 6 1 0;owes 0 7;within 1;");
        gap(0, TWO + "thing 8 1 0;owes 0 7;within 1;");
        gap(0, "person sand 7 plain;person plain;owes 0 7;");
        gap(1, "person sand 6 plain;person plain;owes 0 7;");
        gap(1, TWO + "owes 0 1;");
        gap(1, TWO + "owes 0 1;within 9;");
        gap(999, TWO + "owes 0 999;");
        gap(999, TWO + "thing 99 1 1;owes 0 999;within 9;");
    }

    private static void giveRefused() {
        Check.sentence("Promise 8: A GIFT: 0, or the TROUBLE (STATUS 1).");
        Twins.changesOnly("trouble 1", Twins::rich, 1, x -> x.give(3, 0, 0, 0), "count(8)");
        Twins.changesOnly("trouble 1", Twins::rich, 1, x -> x.give(2, 16, 0, 0), "count(8)");
        Twins.changesOnly("trouble 1", Twins::rich, 1, x -> x.give(2, 8, -1, 0), "count(8)");
        Twins.changesOnly("trouble 2", Twins::rich, 2, x -> x.give(0, 0, 1, 1), "count(8)");
        Twins.changesOnly("trouble 3", Twins::rich, 3, x -> x.give(2, 1, 0, 0), "count(8)");
        Twins.changesOnly("trouble 3", Twins::rich, 3, x -> x.give(2, 8, 1, 0), "count(8)");
        Twins.changesOnly("trouble 4", Twins::rich, 4, x -> x.give(2, 8, 0, 2), "count(8)");
        Twins.changesOnly("trouble 5", Twins::rich, 5, x -> x.give(2, 4, 0, 0), "count(8)");
        Twins.changesOnly("trouble 6", Twins::rich, 6, x -> x.give(2, 12, 0, 0), "count(8)");
        HeavyGifts x = Twins.rich();
        Check.same("refused so far", 1, () -> x.count(8));
        Check.same("a gift", 0, () -> x.give(2, 8, 0, 0));
        Check.same("counts not", 1, () -> x.count(8));
        Check.same("another one does", 2, () -> x.give(2, 8, 0, 0));
        Check.same("refused", 2, () -> x.count(8));
        Check.same("texts", 1, () -> x.count(7));
    }

    /* Two give the same thing to and fro, two gifts a day: 0 has it at a day's end and owes 5 to 1. */
    static HeavyGifts withFullBook() {
        HeavyGifts x = new HeavyGifts();
        Check.tell(x, "person plain;person plain;thing 5 1 0;thing 3 1 0;owes 0 5;");
        x.image();
        x.days(60);
        x.days(40);
        return x;
    }

    private static void fullBook() {
        Check.sentence("Promise 8: THE BOOK is full: 7 (asked behind all).");
        HeavyGifts x = withFullBook();
        Check.same("200 gifts", 200, () -> x.count(5));
        Twins.changesOnly("full", GiftEdgesTest::withFullBook, 7, y -> y.give(0, 1, 0, 1), "count(8)");
        int[][] troubles = {{1, 2, 1, 0, 1}, {2, 1, 0, 0, 0}, {3, 0, 1, 1, 1}, {4, 0, 1, 0, 0}, {5, 0, 0, 0, 1},
            {6, 0, 3, 0, 1}};
        for (int[] t : troubles) {
            Twins.changesOnly("trouble " + t[0], GiftEdgesTest::withFullBook, t[0],
                    y -> y.give(t[1], t[2], t[3], t[4]), "count(8)");
        }
        Check.same("undo", 199, x::undo);
        Check.same("the 200th", 0, () -> x.give(1, 1, 0, 0));
        Check.same("200 again", 200, () -> x.count(5));
        Check.same("the 201st", 7, () -> x.give(0, 1, 0, 1));
        Check.same("who has it", 0, () -> x.thing(0, 2));
    }

    private static void judged() {
        Check.sentence("Promise 9: What TROUBLE a GIFT would have; 0: none.");
        Twins.changesNothing("none", Twins::rich, 0, x -> x.judge(2, 8, 0, 0));
        Twins.changesNothing("1", Twins::rich, 1, x -> x.judge(3, 0, 0, 0));
        Twins.changesNothing("2", Twins::rich, 2, x -> x.judge(0, 0, 1, 1));
        Twins.changesNothing("3", Twins::rich, 3, x -> x.judge(2, 1, 0, 0));
        Twins.changesNothing("4", Twins::rich, 4, x -> x.judge(2, 8, 0, 2));
        Twins.changesNothing("5", Twins::rich, 5, x -> x.judge(2, 4, 0, 0));
        Twins.changesNothing("6", Twins::rich, 6, x -> x.judge(2, 12, 0, 0));
        Twins.changesNothing("a full book is no trouble", GiftEdgesTest::withFullBook, 0, x -> x.judge(0, 1, 0, 1));
    }

    private static void undone() {
        Check.sentence("Promise 10: how many are left. NONE: there is none.");
        HeavyGifts x = Twins.rich();
        Check.same("one is left", 1, x::undo);
        Check.same("none is left", 0, x::undo);
        Check.same("there is none", -1, x::undo);
        Check.same("nor then", -1, x::undo);
        Check.same("the day stays", 1, () -> x.count(4));
        Check.same("the weight stays", 2, () -> x.thing(1, 0));
        Check.same("status stays", 1, () -> x.count(8));
        Twins.changesNothing("undo of none", () -> {
            HeavyGifts y = Twins.rich();
            y.undo();
            y.undo();
            return y;
        }, -1, HeavyGifts::undo);
        HeavyGifts full = withFullBook();
        for (int left = 199; left >= 0; left--) {
            Check.same("of 200", left, full::undo);
        }
        Check.same("all are undone", -1, full::undo);
        Check.same("to anyone, as told", -1, () -> full.person(0, 3));
        Check.same("owes as told", 5, () -> full.person(0, 2));
        Check.same("1 owes nothing", 0, () -> full.person(1, 2));
    }

    private static void giftsOfTheBook() {
        Check.sentence("Promise 11: NoSuchElementException: there is none, another what.");
        int[][] due = {{0, 3, 0, 1, 8}, {1, 6, 0, 2, 7}};
        for (int i = 0; i < 2; i++) {
            for (int what = 0; what < 5; what++) {
                int at = i;
                int w = what;
                Check.same("gift(" + i + ", " + w + ")", due[i][w], () -> Twins.rich().gift(at, w));
            }
        }
        for (int i : new int[] {-1, 2, 3, 199, 200, Integer.MIN_VALUE, Integer.MAX_VALUE}) {
            Twins.changesNothing("gift " + i, Twins::rich, Check.NO_SUCH, x -> x.gift(i, 0));
        }
        for (int w : new int[] {-1, 5, 8, 9, Integer.MIN_VALUE, Integer.MAX_VALUE}) {
            Twins.changesNothing("what " + w, Twins::rich, Check.NO_SUCH, x -> x.gift(0, w));
        }
        Check.noSuch("none at all", () -> Check.town(TWO).gift(0, 0));
        HeavyGifts sand = Check.town("person plain;person sand 99 plain;thing 99 1 1;owes 1 198 to 0;");
        Check.same("a gift", 0, () -> sand.give(1, 1, 99, 0));
        int[] told = {1, 1, 99, 0, 198};
        for (int what = 0; what < 5; what++) {
            int w = what;
            Check.same("of thing and sand, " + w, told[w], () -> sand.gift(0, w));
        }
        HeavyGifts full = withFullBook();
        Check.same("the first of 200", 0, () -> full.gift(0, 0));
        Check.same("the last of 200", 1, () -> full.gift(199, 0));
        Check.noSuch("the 201st", () -> full.gift(200, 0));
        full.undo();
        Check.noSuch("the one that is undone", () -> full.gift(199, 0));
        Check.same("the one ahead of it", 0, () -> full.gift(198, 0));
    }

    private static void howManySets() {
        Check.sentence("Promise 12: How many SETS FIT (0: none, or he OWES nothing).");
        HeavyGifts x = Check.town("person sand 9 plain;person plain;thing 5 1 1;thing 20 1 0;owes 1 6;");
        Check.same("owes nothing", 0, () -> x.sets(0));
        Check.same("none", 0, () -> x.sets(1));
        HeavyGifts all = Check.town("person sand 3 plain;person plain;" + "thing 1 1 0;".repeat(12)
                + "owes 0 6;within 6;");
        Check.same("all, by within and sand", 4096, () -> all.sets(0));
        HeavyGifts less = Check.town("person plain;person plain;" + "thing 1 1 0;".repeat(12) + "owes 0 6;within 6;");
        Check.same("all but the empty one", 4095, () -> less.sets(0));
        HeavyGifts six = Check.town("person plain;person plain;" + "thing 1 1 0;".repeat(12) + "owes 0 6;");
        Check.same("six of twelve", 924, () -> six.sets(0));
        HeavyGifts one = Check.town("person plain;person plain;" + "thing 99 1 0;".repeat(12) + "owes 0 999;within 9;");
        Check.same("ten of twelve", 66, () -> one.sets(0));
        Twins.changesNothing("sets", Twins::rich, 2, y -> y.sets(2));
    }

    private static void choiceNone() {
        Check.sentence("Promise 13: NONE of all: there is none. NoSuchElementException: also another what.");
        HeavyGifts x = Check.town("person plain;person plain;person wait 1;thing 4 1 1;thing 5 1 2;owes 1 5;owes 2 5;");
        for (int p = 0; p < 3; p++) {
            for (int what = 0; what < 3; what++) {
                int who = p;
                int w = what;
                Check.same("none of " + p + ", " + w, -1, () -> x.choice(who, w));
            }
        }
        for (int w : new int[] {-1, 3, Integer.MIN_VALUE, Integer.MAX_VALUE}) {
            Twins.changesNothing("choice's what " + w, Twins::rich, Check.NO_SUCH, y -> y.choice(1, w));
            Check.noSuch("where there is a choice", () -> Check.town("person sand 1 plain;person plain;owes 0 1;")
                    .choice(0, w));
        }
        HeavyGifts all = Check.town("person sand 1 plain;person plain;" + "thing 1 1 0;".repeat(12) + "owes 0 13;");
        Check.same("all", 4095, () -> all.choice(0, 0));
        Check.same("and all sand", 1, () -> all.choice(0, 1));
        Twins.changesNothing("choice", Twins::rich, -1, y -> y.choice(2, 0));
    }

    private static void gapNone() {
        Check.sentence("Promise 14: GAP; NONE: he OWES nothing.");
        HeavyGifts x = Check.town("person sand 9 plain;person plain;thing 5 1 0;owes 1 1;");
        Check.same("owes nothing", -1, () -> x.gap(0));
        Check.same("owes 1", 1, () -> x.gap(1));
        Twins.changesNothing("gap", Twins::rich, 0, y -> y.gap(2));
    }
}
