/** The sentences of the terms' first part and of promises 1 to 7 that name an edge: a test for each of them. */
public final class TownEdgesTest {
    private static final String ONE = "person plain;";

    public static void main(String[] args) {
        calls();
        people();
        kinds();
        wait99();
        aim11();
        sand99();
        things();
        weight99();
        worth999();
        whoHasIt();
        wetOrNot();
        owes999();
        lawOrNot();
        within9();
        text700();
        words();
        numbers();
        blanks();
        signs();
        linesOrNone();
        fault1AtItsToken();
        fault1AtTheEnd();
        fault2();
        fault3();
        fault4();
        fault5();
        firstFault();
        leastFault();
        newObject();
        feed700();
        feedBytes();
        townReads();
        townRefuses();
        townThrows();
        townAnew();
        faultPlace();
        counts();
        persons();
        thingsTold();
        Check.end();
    }

    private static void good(String text) {
        Check.town(text);
    }

    private static void refused(int fault, int place, String text) {
        HeavyGifts x = new HeavyGifts();
        Check.same("fault of '" + text + "'", fault, () -> Check.tell(x, text));
        Check.same("place in '" + text + "'", place, x::fault);
    }

    /** The text is good with the numbers least and most at its #, and refused one beyond them. */
    private static void range(String text, int least, int most, Twins.On told) {
        int place = text.indexOf('#');
        for (int number : new int[] {least, least + 1, most - 1, most}) {
            HeavyGifts x = Check.town(text.replace("#", "" + number));
            Check.same(number + " in " + text, number, () -> told.run(x));
        }
        refused(2, place, text.replace("#", "" + (most + 1)));
        refused(2, place, text.replace("#", "9999"));
        if (least > 0) {
            refused(2, place, text.replace("#", "" + (least - 1)));
        }
        refused(1, place, text.replace("#", "-1"));
    }

    private static void calls() {
        Check.sentence("An object is used for at most 512 calls after it has been made");
        HeavyGifts x = new HeavyGifts();
        int calls = 0;
        Check.tell(x, "person plain;person plain;thing 5 1 0;owes 0 5; ");
        calls += 3 + 1;
        while (calls < 510) {
            Check.same("call " + calls, 0, () -> x.give(0, 1, 0, 1));
            Check.same("call " + (calls + 1), 0, x::undo);
            calls += 2;
        }
        Check.same("call 511", 0, () -> x.give(0, 1, 0, 1));
        Check.same("call 512", 0, x::undo);
    }

    private static void people() {
        Check.sentence("A TOWN has PEOPLE 0, 1 .. (at most 6)");
        for (int many = 0; many <= 6; many++) {
            int people = many;
            HeavyGifts x = Check.town(ONE.repeat(many));
            Check.same("people", people, () -> x.count(0));
            for (int p = 0; p < many; p++) {
                int who = p;
                Check.same("person " + p, 0, () -> x.person(who, 0));
            }
            Check.noSuch("person " + many, () -> x.person(people, 0));
        }
        refused(2, 78, ONE.repeat(7));
    }

    private static void kinds() {
        Check.sentence("each a GIVER of a KIND: 0 plain, 1 least, 2 fewest, 3 aim (at a THING), 4 wait");
        HeavyGifts x = Check.town("person plain;person least;person fewest;person aim 0;person wait 0;");
        for (int p = 0; p < 5; p++) {
            int kind = p;
            Check.same("kind of " + p, kind, () -> x.person(kind, 0));
        }
    }

    private static void wait99() {
        Check.sentence("4 wait (till a DAY 0 to 99)");
        HeavyGifts today = Check.town("person wait 0;person plain;thing 1 1 0;owes 0 1;");
        Check.same("till 0", 1, () -> today.choice(0, 0));
        HeavyGifts late = Check.town("person wait 99;person plain;thing 1 1 0;owes 0 1;");
        late.days(60);
        Check.same("98 days", 0, () -> late.days(38));
        Check.same("day 98", -1, () -> late.choice(0, 0));
        late.days(1);
        Check.same("day 99", 1, () -> late.choice(0, 0));
        refused(2, 12, "person wait 100;");
        refused(1, 12, "person wait -1;");
    }

    private static void aim11() {
        Check.sentence("'aim' is 0 to 11 (a THING that there isn't is had by nobody)");
        String twelve = "thing 1 1 1;".repeat(2) + "thing 1 1 2;".repeat(10);
        HeavyGifts first = Check.town("person plain;person plain;person aim 0;" + twelve + "owes 2 1;");
        Check.same("aim 0", 1, () -> first.choice(2, 2));
        HeavyGifts last = Check.town("person aim 11;person plain;person plain;" + twelve + "owes 0 1;owes 2 1;");
        Check.same("aim 11: he has nothing to give", -1, () -> last.choice(0, 2));
        HeavyGifts sand = Check.town("person sand 1 aim 11;person plain;person plain;" + twelve + "owes 0 1;");
        Check.same("aim 11", 2, () -> sand.choice(0, 2));
        HeavyGifts none = Check.town("person sand 1 aim 11;person plain;person plain;"
                + "thing 1 1 2;".repeat(11) + "owes 0 1;");
        Check.same("had by nobody: to the next one", 1, () -> none.choice(0, 2));
        HeavyGifts six = Check.town("person sand 1 aim 0;".repeat(6) + "owes 5 1;");
        Check.same("by nobody of six: to the first one", 0, () -> six.choice(5, 2));
        refused(2, 11, "person aim 12;");
        refused(1, 11, "person aim -1;");
    }

    private static void sand99() {
        Check.sentence("SAND in drachms (0 to 99; 0 without)");
        range("person sand # plain;", 0, 99, x -> x.person(0, 1));
        Check.same("without", 0, () -> Check.town("person plain;").person(0, 1));
    }

    private static void things() {
        Check.sentence("THINGS 0, 1 .. (at most 12)");
        for (int many = 0; many <= 12; many++) {
            int things = many;
            HeavyGifts x = Check.town(ONE + "thing 1 1 0;".repeat(many));
            Check.same("things", things, () -> x.count(1));
            Check.same("all are his", (1 << many) - 1, () -> x.person(0, 4));
            Check.same("the last", many == 0 ? Check.NO_SUCH : 1, () -> x.thing(things - 1, 0));
            Check.noSuch("one more", () -> x.thing(things, 0));
        }
        refused(2, 13 + 144, ONE + "thing 1 1 0;".repeat(13));
    }

    private static void weight99() {
        Check.sentence("a WEIGHT in drachms (1 to 99)");
        range("person plain;thing # 1 0;", 1, 99, x -> x.thing(0, 0));
    }

    private static void worth999() {
        Check.sentence("a WORTH (0 to 999)");
        range("person plain;thing 1 # 0;", 0, 999, x -> x.thing(0, 1));
        HeavyGifts x = Check.town(ONE + "thing 99 999 0;".repeat(12));
        Check.same("the most worth", 11988, () -> x.person(0, 5));
        Check.same("the most weight", 1188, () -> x.person(0, 6));
    }

    private static void whoHasIt() {
        Check.sentence("who HAS it");
        for (int p = 0; p < 6; p++) {
            int who = p;
            HeavyGifts x = Check.town(ONE.repeat(6) + "thing 1 1 " + p + ";");
            Check.same("of " + p, who, () -> x.thing(0, 2));
        }
    }

    private static void wetOrNot() {
        Check.sentence("WET or not");
        Check.same("wet", 1, () -> Check.town(ONE + "thing 1 1 0 wet;").thing(0, 3));
        Check.same("not", 0, () -> Check.town(ONE + "thing 1 1 0;").thing(0, 3));
        HeavyGifts x = Check.town(ONE + "thing 1 1 0;".repeat(11) + "thing 1 1 0 wet;");
        Check.same("the 11th", 0, () -> x.thing(10, 3));
        Check.same("the 12th", 1, () -> x.thing(11, 3));
    }

    private static void owes999() {
        Check.sentence("Who OWES a WEIGHT (1 to 999), to one, or to ANYONE.");
        range("person plain;owes 0 #;", 1, 999, x -> x.person(0, 2));
        range("person plain;person plain;owes 1 # to 0;", 1, 999, x -> x.person(1, 2));
        Check.same("to anyone", -1, () -> Check.town(ONE.repeat(2) + "owes 1 1;").person(1, 3));
        Check.same("to one", 0, () -> Check.town(ONE.repeat(2) + "owes 1 1 to 0;").person(1, 3));
        Check.same("who owes nothing", 0, () -> Check.town(ONE.repeat(2) + "owes 1 1;").person(0, 2));
    }

    private static void lawOrNot() {
        Check.sentence("LAW: a gift is answered to its giver (0), or to ANYONE (1; 0 without).");
        Check.same("without", 0, () -> Check.town(ONE).count(2));
        Check.same("giver", 0, () -> Check.town("law giver;").count(2));
        Check.same("anyone", 1, () -> Check.town("law anyone;").count(2));
    }

    private static void within9() {
        Check.sentence("WITHIN so many drachms (0 to 9; 0 without).");
        range("within #;", 0, 9, x -> x.count(3));
        Check.same("without", 0, () -> Check.town("law giver;").count(3));
    }

    private static void text700() {
        Check.sentence("A TEXT of at most 700 bytes tells it.");
        String text = " ".repeat(700 - 22) + "law anyone;law giver  ;";
        HeavyGifts full = Check.town(" ".repeat(700 - 11) + "law anyone;");
        Check.same("its last byte is read", 1, () -> full.count(2));
        HeavyGifts x = new HeavyGifts();
        Check.feed(x, text.substring(0, 700));
        Check.same("a fault at the end of 700", 5, () -> x.town(700));
        Check.same("its place", 689, x::fault);
        HeavyGifts y = new HeavyGifts();
        Check.feed(y, " ".repeat(690) + "law anyone");
        Check.same("ends too soon", 1, () -> y.town(700));
        Check.same("at 700", 700, y::fault);
        Check.illegal("701", () -> Check.town(" ".repeat(700)).town(701));
    }

    private static void words() {
        Check.sentence("words (a .. z, the longest row)");
        refused(1, 0, "personplain;");
        refused(1, 0, "persons plain;");
        refused(1, 0, "perso plain;");
        refused(1, 0, "Person plain;");
        refused(1, 0, "qerson plain;");
        refused(1, 0, "persom plain;");
        refused(1, 0, "ithin 1;");
        refused(1, 0, "thong 1 1 0;");
        refused(1, 6, "person`plain;");
        refused(1, 6, "person{plain;");
        refused(1, 6, "personPlain;");
        refused(1, 7, "person plainly;");
        refused(1, 7, "person plai;");
        refused(1, 12, "person sand waits;");
        refused(1, 13, ONE + "a;");
        refused(1, 13, ONE + "z;");
        refused(1, 13, ONE + "z".repeat(600));
    }

    private static void numbers() {
        Check.sentence("NUMBERS (1 to 4 digits)");
        Check.same("1 digit", 9, () -> Check.town("person sand 9 plain;").person(0, 1));
        Check.same("2 digits", 9, () -> Check.town("person sand 09 plain;").person(0, 1));
        Check.same("3 digits", 9, () -> Check.town("person sand 009 plain;").person(0, 1));
        Check.same("4 digits", 9, () -> Check.town("person sand 0009 plain;").person(0, 1));
        Check.same("a number at a word", 9, () -> Check.town("person sand9plain;").person(0, 1));
        HeavyGifts four = Check.town("person plain;person wait 0000;thing 0099 0999 0001;owes 0001 0999 to 0000;"
                + "within 0009;");
        Check.same("a person of 4 digits", 1, () -> four.thing(0, 2));
        Check.same("to one of 4 digits", 0, () -> four.person(1, 3));
        refused(4, 30, "person plain;owes 0000 1;owes 0000 1;");
        refused(2, 12, "person sand 00009 plain;");
        refused(2, 12, "person sand 000000000000000000009 plain;");
        refused(2, 12, "person sand 4294967296 plain;");
        refused(1, 12, "person sand / plain;");
        refused(1, 12, "person sand : plain;");
        refused(1, 14, "person sand 1 2 plain;");
    }

    private static void blanks() {
        Check.sentence("blanks (32, 10) between them, which count for nothing");
        for (int b = 0; b < 256; b++) {
            String text = "person" + (char) b + "plain;";
            if (b == 32 || b == 10) {
                good(text);
            } else if (b >= 'a' && b <= 'z') {
                refused(1, 0, text);
            } else {
                refused(1, 6, text);
            }
        }
        good(" \n\n person \n plain\n ; \n");
        good("personsand".replace("ns", "n s") + "5plain;");
        good("person plain;person plain;thing\n1\n1\n1\nwet\n;owes\n0\n1\nto\n1\n;law\ngiver\n;within\n1\n;");
    }

    private static void signs() {
        Check.sentence("the sign ;");
        for (int b = 0; b < 256; b++) {
            String text = "person plain" + (char) b;
            if (b == ';') {
                good(text);
            } else if (b >= 'a' && b <= 'z') {
                refused(1, 7, text);
            } else {
                refused(1, b == 32 || b == 10 ? 13 : 12, text);
            }
        }
    }

    private static void linesOrNone() {
        Check.sentence("TOWN: LINE*.");
        good("");
        good(" ");
        good("\n \n");
        good("law giver;");
        good("within 0;law anyone;");
        refused(1, 0, ";");
        refused(1, 13, ONE + ";");
        Check.same("no lines, no people", 0, () -> Check.town(" ").count(0));
    }

    private static void fault1AtItsToken() {
        Check.sentence("1 a TOKEN that can't stand there, or is none");
        String two = ONE + ONE;
        String[][] table = {{"", "person thing owes law within"}, {"person ", "sand plain least fewest aim wait"},
            {"person sand ", "0"}, {"person sand 1 ", "plain least fewest aim wait"}, {"person plain ", ";"},
            {"person least ", ";"}, {"person fewest ", ";"}, {"person aim ", "0"}, {"person aim 1 ", ";"},
            {"person wait ", "0"}, {"person wait 1 ", ";"}, {two + "thing ", "0"}, {two + "thing 1 ", "0"},
            {two + "thing 1 1 ", "0"}, {two + "thing 1 1 0 ", "wet ;"}, {two + "thing 1 1 0 wet ", ";"},
            {two + "owes ", "0"}, {two + "owes 1 ", "0"}, {two + "owes 1 1 ", "to ;"}, {two + "owes 1 1 to ", "0"},
            {two + "owes 1 1 to 0 ", ";"}, {"law ", "giver anyone"}, {"law giver ", ";"}, {"law anyone ", ";"},
            {"within ", "0"}, {"within 1 ", ";"}};
        String[] tokens = {"person", "sand", "plain", "least", "fewest", "aim", "wait", "thing", "wet", "owes", "to",
            "law", "giver", "anyone", "within", "x", "0", "99999", ";", "?", "-", "A"};
        for (String[] row : table) {
            for (String token : tokens) {
                String kind = token.equals("99999") ? "0" : token;
                if (!(" " + row[1] + " ").contains(" " + kind + " ")) {
                    refused(1, row[0].length(), row[0] + token + " 0;");
                } else {
                    mayStand(row[0], token);
                }
            }
        }
    }

    private static void mayStand(String start, String token) {
        HeavyGifts x = new HeavyGifts();
        long fault = Check.answer(() -> Check.tell(x, start + token));
        Check.same("fault 1 of '" + token + "' behind '" + start + "'", 0,
                () -> fault == 1 && x.fault() == start.length() ? 1 : 0);
    }

    private static void fault1AtTheEnd() {
        Check.sentence("(the text's length where it ends too soon)");
        String[] lines = {"person sand 5 aim 3 ;", "person wait 5 ;", "thing 9 9 0 wet ;", "owes 0 9 to 1 ;",
            "law anyone ;", "within 9 ;"};
        for (String line : lines) {
            for (int at = line.indexOf(' '); at < line.length() - 1; at = line.indexOf(' ', at + 1)) {
                String start = "person plain;person plain;" + line.substring(0, at);
                refused(1, start.length(), start);
                refused(1, start.length() + 2, start + " \n");
                if (line.indexOf(' ', at + 1) < 0) {
                    break;
                }
            }
        }
        HeavyGifts x = new HeavyGifts();
        Check.feed(x, "person plain;");
        Check.same("n bytes are the text", 1, () -> x.town(12));
        Check.same("its length", 12, x::fault);
        HeavyGifts number = new HeavyGifts();
        Check.feed(number, "within 77;");
        Check.same("a number goes no further", 1, () -> number.town(8));
        Check.same("its length", 8, number::fault);
        HeavyGifts word = new HeavyGifts();
        Check.feed(word, "law anyone;");
        Check.same("a word goes no further", 1, () -> word.town(9));
        Check.same("its place", 4, word::fault);
        HeavyGifts blank = new HeavyGifts();
        Check.feed(blank, "law   anyone;");
        Check.same("nor do blanks", 1, () -> blank.town(5));
        Check.same("its length", 5, blank::fault);
    }

    private static void fault2() {
        Check.sentence("2 one that can, but is too much: a NUMBER of 5 digits or more, or not as told,"
                + " the first TOKEN of the 7th PERSON, the 13th THING");
        String[] starts = {"person sand ", "person aim ", "person wait ", "person plain;thing ",
            "person plain;thing 1 ", "person plain;thing 1 1 ", "person plain;owes ", "person plain;owes 0 ",
            "person plain;person plain;owes 1 1 to ", "within "};
        for (String start : starts) {
            refused(2, start.length(), start + "00001;");
            refused(2, start.length(), start + "00000;");
            refused(2, start.length(), start + "99999;");
            refused(2, start.length(), start + "12345678901234567890;");
        }
        String six = ONE.repeat(6);
        refused(2, 78, six + "person");
        refused(2, 80, six + "  person nonsense");
        refused(1, 78, six + "persons");
        String twelve = ONE + "thing 1 1 0;".repeat(12);
        refused(2, 157, twelve + "thing");
        refused(2, 158, twelve + " thing 0 nonsense");
    }

    private static void fault3() {
        Check.sentence("3 a PERSON that isn't told ahead");
        for (int people = 0; people <= 6; people++) {
            String told = ONE.repeat(people);
            refused(3, told.length() + 10, told + "thing 1 1 " + people + ";");
            refused(3, told.length() + 5, told + "owes " + people + " 1;" + ONE);
            if (people > 0) {
                good(told + "thing 1 1 " + (people - 1) + ";owes " + (people - 1) + " 1;");
                refused(3, told.length() + 12, told + "owes 0 1 to " + people + ";");
            }
        }
        refused(3, 23, ONE + "thing 1 1 9999;");
        refused(3, 18, ONE + "owes 9999 1;");
        refused(3, 25, ONE + "owes 0 1 to 9999;");
    }

    private static void fault4() {
        Check.sentence("4 one who OWES already, a second PERSON that is the first");
        refused(4, 40, ONE.repeat(2) + "owes 0 1;owes 0 1;");
        refused(4, 45, ONE.repeat(2) + "owes 0 1 to 1;owes 0 2;");
        good(ONE.repeat(2) + "owes 0 1;owes 1 1;");
        refused(4, 38, ONE.repeat(2) + "owes 0 1 to 0;");
        refused(4, 38, ONE.repeat(2) + "owes 1 1 to 1;");
        refused(4, 38, ONE.repeat(2) + "owes 1 1 to 001;");
        good(ONE.repeat(2) + "owes 1 1 to 0;");
    }

    private static void fault5() {
        Check.sentence("5 a second 'law', 'within'");
        refused(5, 10, "law giver;law giver;");
        refused(5, 11, "law anyone;law");
        refused(5, 9, "within 0;within 0;");
        refused(5, 20, "within 0;law giver; within");
        refused(5, 19, "law giver;within 0;law anyone;");
        good("law giver;within 0;");
        good("within 0;law giver;");
    }

    private static void firstFault() {
        Check.sentence("FAULTS, the first along the text, at a TOKEN's first byte");
        refused(3, 5, "owes 0 1;x");
        refused(2, 12, "person sand 100 plain;thing 0 0 9;");
        refused(5, 10, "law giver;law giver;within 77;");
        refused(2, 6 + 13, ONE + "thing 0 1000 9;");
        refused(2, 8 + 13, ONE + "thing 1 1000 9;");
        refused(3, 10 + 13, ONE + "thing 1 1 9 dry;");
    }

    private static void leastFault() {
        Check.sentence("of one TOKEN the least");
        refused(1, 0, "99999;");
        refused(1, 7, "person 99999;");
        refused(1, 13, ONE + "00000;");
        refused(2, 18, ONE + "owes 00009 1;");
        refused(2, 27, ONE + "owes 0 1;owes 00000 1;");
        refused(2, 25, ONE + "owes 0 1 to 00000;");
        refused(2, 23, ONE + "thing 1 1 00009;");
        refused(3, 27, ONE + "owes 0 1;owes 1 1 to 1;");
    }

    private static void newObject() {
        Check.sentence("Promise 1: No PEOPLE, no THINGS.");
        for (int what = 0; what < 9; what++) {
            int w = what;
            Check.same("count " + w, 0, () -> new HeavyGifts().count(w));
        }
        HeavyGifts x = new HeavyGifts();
        Check.same("fault", -1, x::fault);
        Check.same("undo", -1, x::undo);
        Check.same("restore", 0, () -> x.restore() ? 1 : 0);
        Check.noSuch("order ahead of a week", () -> x.order(0));
        Check.same("judge", 1, () -> x.judge(0, 0, 0, 0));
        Check.same("give", 1, () -> x.give(0, 0, 0, 1));
        Check.same("week", 1, () -> x.week(0));
        Check.same("week", 0, () -> x.week(1));
        Check.same("week", 0, () -> x.week(2));
        Check.same("fewest", -1, () -> x.fewest(1));
        Check.same("still", 0, x::still);
        Check.same("days", 0, () -> x.days(1));
        Check.noSuch("person", () -> x.person(0, 0));
        Check.noSuch("thing", () -> x.thing(0, 0));
        Check.noSuch("gift", () -> x.gift(0, 0));
        Check.noSuch("order", () -> x.order(0));
        Check.noSuch("sets", () -> x.sets(0));
        Check.noSuch("get", () -> x.get(0, 0));
        Check.illegal("town", () -> x.town(1));
        Check.same("an empty tape is a town", 0, () -> x.town(0));
    }

    private static void feed700() {
        Check.sentence("Promise 2: NONE, and none come, if it would have more than 700.");
        HeavyGifts x = new HeavyGifts();
        for (int i = 1; i <= 35; i++) {
            int bytes = 20 * i;
            Check.same("feed " + i, bytes, () -> x.feed(0x6c617720, 0x67697665, 0x723b2020, 0x20202020, 0x20202020));
        }
        Check.same("the 36th", -1, () -> x.feed(0x20202020, 0, 0, 0, 0));
        Check.same("once more", -1, () -> x.feed(0x20202020, 0, 0, 0, 0));
        Check.same("none came", 700, () -> x.count(6));
        Check.same("the first line is there once more", 5, () -> x.town(700));
        Check.same("so the tape began anew nowhere", 20, x::fault);
        Check.same("the tape is empty", 20, () -> x.feed(0, 0, 0, 0, 0));
        Twins.changesNothing("a feed without room", TownEdgesTest::fullTape, -1, y -> y.feed(1, 2, 3, 4, 5));
    }

    private static HeavyGifts fullTape() {
        HeavyGifts x = Twins.rich();
        Check.feed(x, " ".repeat(660));
        return x;
    }

    private static void feedBytes() {
        Check.sentence("Promise 2: Twenty bytes come behind the tape, of each number the highest first");
        HeavyGifts x = new HeavyGifts();
        Check.same("twenty", 20, () -> x.feed(0x70657273, 0x6f6e2073, 0x616e6420, 0x39382070, 0x6c61696e));
        Check.same("forty", 40, () -> x.feed(0x3b706572, 0x736f6e20, 0x77616974, 0x20353b20, 0x20202020));
        Check.same("a town", 0, () -> x.town(40));
        Check.same("its sand", 98, () -> x.person(0, 1));
        Check.same("its second one", 4, () -> x.person(1, 0));
        for (int at = 0; at < 20; at++) {
            int[] n = {0x20202020, 0x20202020, 0x20202020, 0x20202020, 0x20202020};
            n[at / 4] ^= 0xe0 << 24 - at % 4 * 8;
            int place = at;
            HeavyGifts y = new HeavyGifts();
            y.feed(n[0], n[1], n[2], n[3], n[4]);
            Check.same("a byte of 192", 1, () -> y.town(20));
            Check.same("its place", place, y::fault);
        }
    }

    private static void townReads() {
        Check.sentence("Promise 3: The tape's first n bytes (it is empty then) are a TOWN");
        HeavyGifts x = new HeavyGifts();
        Check.feed(x, ONE + ONE);
        Check.same("the first 13", 0, () -> x.town(13));
        Check.same("one person", 1, () -> x.count(0));
        Check.same("empty", 0, () -> x.count(6));
        Check.illegal("no byte is left", () -> x.town(1));
        HeavyGifts all = new HeavyGifts();
        Check.feed(all, "law anyone;within 9;");
        Check.same("all of the tape", 0, () -> all.town(20));
        Check.same("within", 9, () -> all.count(3));
        HeavyGifts none = Check.town(ONE);
        Check.feed(none, ONE);
        Check.same("none of the tape", 0, () -> none.town(0));
        Check.same("nobody", 0, () -> none.count(0));
        Check.same("empty, too", 0, () -> none.count(6));
        HeavyGifts bad = new HeavyGifts();
        Check.feed(bad, "x" + ONE);
        Check.same("a fault", 1, () -> bad.town(1));
        Check.same("empty behind a fault", 0, () -> bad.count(6));
    }

    private static void townRefuses() {
        Check.sentence("Promise 3: 0, or the FAULT (all stays, but STATUS).");
        Twins.On fault = x -> Check.tell(x, "person plain;person aim;");
        Twins.changesOnly("a fault", Twins::richWithoutTape, 1, fault, "count(7)", "fault");
        HeavyGifts x = Twins.richWithoutTape();
        Check.same("texts refused so far", 1, () -> x.count(7));
        for (int i = 2; i <= 4; i++) {
            int many = i;
            Check.same("a fault", 5, () -> Check.tell(x, "law giver;law giver;"));
            Check.same("texts refused", many, () -> x.count(7));
        }
        Check.same("gifts refused", 1, () -> x.count(8));
    }

    private static void townThrows() {
        Check.sentence("Promise 3: IllegalArgumentException: the tape has not so many, n below 0 (nothing changes).");
        for (int n : new int[] {-1, -2, Integer.MIN_VALUE, 41, 60, 700, 701, Integer.MAX_VALUE}) {
            Twins.changesNothing("town(" + n + ")", Twins::rich, Check.ILLEGAL, x -> x.town(n));
        }
        Check.same("40 bytes", 0, () -> Twins.rich().town(40));
        Check.same("none", 0, () -> Twins.rich().town(0));
    }

    private static void townAnew() {
        Check.sentence("Promise 3: all anew, DAY 0: .. THE BOOK, the ORDER, the image are gone.");
        HeavyGifts x = Twins.rich();
        Check.same("a day", 1, () -> x.count(4));
        Check.same("a town", 0, () -> x.town(26));
        int[] due = {2, 0, 0, 0, 0, 0, 0, 1, 1};
        for (int what = 0; what < 9; what++) {
            int w = what;
            Check.same("count " + w, due[w], () -> x.count(w));
        }
        Check.same("no sand", 0, () -> x.person(0, 1));
        Check.same("no debt", 0, () -> x.person(0, 2));
        Check.same("no things", 0, () -> x.person(0, 4));
        Check.same("undo", -1, x::undo);
        Check.noSuch("gift", () -> x.gift(0, 0));
        Check.noSuch("order", () -> x.order(0));
        Check.same("image", 0, () -> x.restore() ? 1 : 0);
        Check.noSuch("the third person", () -> x.person(2, 0));
        Check.noSuch("the first thing", () -> x.thing(0, 0));
        HeavyGifts wet = Check.town("person sand 5 wait 9;person plain;within 9;law anyone;thing 9 9 0 wet;owes 0 9 to 1;");
        wet.days(3);
        Check.same("law and within once more", 0, () -> Check.tell(wet, "person least;law giver;within 1;thing 8 8 0;"));
        int[] thing = {8, 8, 0, 0};
        int[] person = {1, 0, 0, -1, 1, 8, 8};
        for (int what = 0; what < 7; what++) {
            int w = what;
            Check.same("the person's " + w, person[w], () -> wet.person(0, w));
            Check.same("the thing's " + w, w < 4 ? thing[w] : Check.NO_SUCH, () -> wet.thing(0, w));
        }
    }

    private static void faultPlace() {
        Check.sentence("Promise 4: The place of the latest town()'s FAULT; NONE without.");
        HeavyGifts x = new HeavyGifts();
        Check.same("no town() yet", -1, x::fault);
        Check.tell(x, "x");
        Check.same("the first byte", 0, x::fault);
        Check.tell(x, "law giver;x");
        Check.same("the latest", 10, x::fault);
        Check.illegal("which throws", () -> x.town(1));
        Check.same("leaves it", 10, x::fault);
        Check.tell(x, "law giver;");
        Check.same("without", -1, x::fault);
    }

    private static void counts() {
        Check.sentence("Promise 5: NoSuchElementException: another what.");
        int[] due = {3, 4, 1, 1, 1, 2, 40, 1, 1};
        for (int what = 0; what < 9; what++) {
            int w = what;
            Check.same("count " + w, due[w], () -> Twins.rich().count(w));
        }
        for (int what : new int[] {-1, 9, Integer.MIN_VALUE, Integer.MAX_VALUE, 256}) {
            Twins.changesNothing("count(" + what + ")", Twins::rich, Check.NO_SUCH, x -> x.count(what));
        }
    }

    private static void persons() {
        Check.sentence("Promise 6: NoSuchElementException: no such PERSON (as everywhere), what.");
        int[] due = {4, 0, 7, -1, 14, 3, 13};
        for (int what = 0; what < 7; what++) {
            int w = what;
            Check.same("person 2, " + w, due[w], () -> Twins.rich().person(2, w));
        }
        for (int w : new int[] {-1, 7, Integer.MIN_VALUE, Integer.MAX_VALUE}) {
            Twins.changesNothing("person's what " + w, Twins::rich, Check.NO_SUCH, x -> x.person(0, w));
        }
        for (int p : new int[] {-1, 3, 5, 6, 7, Integer.MIN_VALUE, Integer.MAX_VALUE}) {
            noPerson(p);
        }
    }

    private static void noPerson(int p) {
        Twins.On[] calls = {x -> x.person(p, 0), x -> x.sets(p), x -> x.choice(p, 0), x -> x.gap(p),
            x -> x.get(p, 0), x -> x.cut(p, 0), x -> x.answers(p, 1, true), x -> x.round(p, 0)};
        for (int i = 0; i < calls.length; i++) {
            Twins.changesNothing("no person " + p + ", call " + i, Twins::rich, Check.NO_SUCH, calls[i]);
        }
    }

    private static void thingsTold() {
        Check.sentence("Promise 7: NoSuchElementException: no such THING (as everywhere), what.");
        int[] due = {2, 1, 2, 1};
        for (int what = 0; what < 4; what++) {
            int w = what;
            Check.same("thing 1, " + w, due[w], () -> Twins.rich().thing(1, w));
        }
        for (int w : new int[] {-1, 4, Integer.MIN_VALUE, Integer.MAX_VALUE}) {
            Twins.changesNothing("thing's what " + w, Twins::rich, Check.NO_SUCH, x -> x.thing(0, w));
        }
        for (int t : new int[] {-1, 4, 11, 12, 32, Integer.MIN_VALUE, Integer.MAX_VALUE}) {
            Twins.changesNothing("thing " + t, Twins::rich, Check.NO_SUCH, x -> x.thing(t, 0));
            Twins.changesNothing("get thing " + t, Twins::rich, Check.NO_SUCH, x -> x.get(0, t));
        }
    }
}
