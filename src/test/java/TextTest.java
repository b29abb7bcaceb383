/** Promises 1 to 7: a new object, the tape, the text and its faults, and what is told of a town. */
public final class TextTest {
    private static final String SIX = "person plain;person plain;person plain;person plain;person plain;person plain;";

    public static void main(String[] args) {
        newObject();
        tape();
        townAndTape();
        wholeText();
        faultsOfTokens();
        faultsOfNumbers();
        faultsOfPeople();
        tooMany();
        whatStays();
        wrongAsked();
        Check.end();
    }

    private static void newObject() {
        HeavyGifts x = new HeavyGifts();
        for (int what = 0; what <= 8; what++) {
            int w = what;
            Check.same("new count " + w, 0, () -> x.count(w));
        }
        Check.same("new fault", -1, x::fault);
        Check.noSuch("new person", () -> x.person(0, 0));
        Check.noSuch("new thing", () -> x.thing(0, 0));
        Check.noSuch("new order", () -> x.order(0));
        Check.noSuch("new gift", () -> x.gift(0, 0));
        Check.same("new restore", 0, () -> x.restore() ? 1 : 0);
        Check.same("new days", 0, () -> x.days(60));
        Check.same("new day", 60, () -> x.count(4));
        Check.same("new still", 60, x::still);
        x.image();
        Check.same("image of nothing", 1, () -> x.restore() ? 1 : 0);
    }

    private static void tape() {
        HeavyGifts x = new HeavyGifts();
        for (int i = 1; i <= 35; i++) {
            int due = 20 * i;
            Check.same("feed " + i, due, () -> x.feed(0x20202020, 0x20202020, 0x20202020, 0x20202020, 0x20202020));
        }
        Check.same("feed 36", -1, () -> x.feed(1, 2, 3, 4, 5));
        Check.same("full tape", 700, () -> x.count(6));
        Check.illegal("701 bytes", () -> x.town(701));
        Check.same("700 blanks are a town", 0, () -> x.town(700));
        Check.same("tape is empty", 0, () -> x.count(6));
        Check.same("byte order", 20, () -> x.feed(0x6c617720, 0x616e796f, 0x6e653b20, 0x77697468, 0x696e2039));
        Check.same("ends too soon", 1, () -> x.town(20));
        Check.same("at its end", 20, x::fault);
    }

    private static void townAndTape() {
        HeavyGifts x = Check.town("person plain;within 3;");
        Check.feed(x, "person plain;person plain;");
        Check.illegal("below 0", () -> x.town(-1));
        Check.illegal("more than there are", () -> x.town(41));
        Check.illegal("most", () -> x.town(Integer.MAX_VALUE));
        Check.illegal("least", () -> x.town(Integer.MIN_VALUE));
        Check.same("tape stays", 40, () -> x.count(6));
        Check.same("town stays", 3, () -> x.count(3));
        Check.same("only the first bytes", 0, () -> x.town(13));
        Check.same("one person", 1, () -> x.count(0));
        Check.same("within anew", 0, () -> x.count(3));
        Check.same("all of the tape is gone", 0, () -> x.count(6));
        Check.same("an empty text", 0, () -> x.town(0));
        Check.same("is an empty town", 0, () -> x.count(0));
    }

    private static void wholeText() {
        HeavyGifts x = Check.town("person plain;\nperson sand99least;person sand 7 fewest ; person aim11;"
                + "person wait 99;person sand 0099 aim 0;within 9;law anyone;"
                + "thing 99 999 5 wet;thing 1 0 0;thing 0012 7 5;owes 1 999;owes 2 1 to 5;owes 3 0040 to 0;");
        int[] kinds = {0, 1, 2, 3, 4, 3};
        int[] sand = {0, 99, 7, 0, 0, 99};
        int[] owed = {0, 999, 1, 40, 0, 0};
        int[] to = {-1, -1, 5, 0, -1, -1};
        int[] has = {2, 0, 0, 0, 0, 5};
        for (int i = 0; i < 6; i++) {
            int p = i;
            Check.same("kind of " + p, kinds[p], () -> x.person(p, 0));
            Check.same("sand of " + p, sand[p], () -> x.person(p, 1));
            Check.same("owed by " + p, owed[p], () -> x.person(p, 2));
            Check.same("to whom by " + p, to[p], () -> x.person(p, 3));
            Check.same("things of " + p, has[p], () -> x.person(p, 4));
        }
        Check.same("worth", 1006, () -> x.person(5, 5));
        Check.same("weight", 111, () -> x.person(5, 6));
        Check.same("people", 6, () -> x.count(0));
        Check.same("things", 3, () -> x.count(1));
        Check.same("law", 1, () -> x.count(2));
        Check.same("within", 9, () -> x.count(3));
        Check.same("weight of 0", 99, () -> x.thing(0, 0));
        Check.same("worth of 0", 999, () -> x.thing(0, 1));
        Check.same("who has 0", 5, () -> x.thing(0, 2));
        Check.same("0 is wet", 1, () -> x.thing(0, 3));
        Check.same("1 is not", 0, () -> x.thing(1, 3));
        Check.same("weight of 2", 12, () -> x.thing(2, 0));
        HeavyGifts y = Check.town("law giver;within 0;");
        Check.same("law giver", 0, () -> y.count(2));
        Check.same("without law", 0, () -> Check.town("person plain;").count(2));
    }

    private static void refused(String text, int fault, int place) {
        HeavyGifts x = new HeavyGifts();
        Check.same("fault of '" + text + "'", fault, () -> Check.tell(x, text));
        Check.same("place of the fault of '" + text + "'", place, x::fault);
        Check.same("status of '" + text + "'", 1, () -> x.count(7));
        Check.same("people of '" + text + "'", 0, () -> x.count(0));
    }

    private static void faultsOfTokens() {
        refused("x", 1, 0);
        refused("  5", 1, 2);
        refused(";", 1, 0);
        refused("Person plain;", 1, 0);
        refused("persons plain;", 1, 0);
        refused("perso plain;", 1, 0);
        refused("personplain;", 1, 0);
        refused("person;", 1, 6);
        refused("person", 1, 6);
        refused("person  \n ", 1, 10);
        refused("person plain", 1, 12);
        refused("person plain person plain;", 1, 13);
        refused("person plain 5;", 1, 13);
        refused("person plain sand 5;", 1, 13);
        refused("person sand plain;", 1, 12);
        refused("person sand 5;", 1, 13);
        refused("person sand 5 sand 6 plain;", 1, 14);
        refused("person sand;", 1, 11);
        refused("person aim;", 1, 10);
        refused("person wait x;", 1, 12);
        refused("person\tplain;", 1, 6);
        refused("person plain\r;", 1, 12);
        refused("person plain" + (char) 233 + ";", 1, 12);
        refused("person plain;thing 1 1 0 dry;", 1, 25);
        refused("person plain;thing 1 1 0 wet wet;", 1, 29);
        refused("person plain;thing 1 1;", 1, 22);
        refused("person plain;owes 0 1 0;", 1, 22);
        refused("person plain;owes 0 1 to;", 1, 24);
        refused("law;", 1, 3);
        refused("law 1;", 1, 4);
        refused("law giver giver;", 1, 10);
        refused("within;", 1, 6);
        refused("within 3", 1, 8);
        refused("within -3;", 1, 7);
        refused("person plain;;", 1, 13);
        refused("person 12345;", 1, 7);
        refused("12345;", 1, 0);
    }

    private static void faultsOfNumbers() {
        refused("person sand 100 plain;", 2, 12);
        refused("person sand 00099 plain;", 2, 12);
        refused("person sand 99999999999999999999 plain;", 2, 12);
        refused("person aim 12;", 2, 11);
        refused("person wait 100;", 2, 12);
        refused("person plain;thing 0 1 0;", 2, 19);
        refused("person plain;thing 100 1 0;", 2, 19);
        refused("person plain;thing 1 1000 0;", 2, 21);
        refused("person plain;thing 1 1 00000;", 2, 23);
        refused("person plain;owes 0 0;", 2, 20);
        refused("person plain;owes 0 1000;", 2, 20);
        refused("person plain;owes 00000 1;", 2, 18);
        refused("person plain;person plain;owes 0 1 to 00001;", 2, 38);
        refused("within 10;", 2, 7);
        refused("within 00001;", 2, 7);
    }

    private static void faultsOfPeople() {
        refused("thing 1 1 0;", 3, 10);
        refused("owes 0 1;person plain;", 3, 5);
        refused("person plain;thing 1 1 1;", 3, 23);
        refused("person plain;thing 1 1 9999;", 3, 23);
        refused("person plain;owes 0 1 to 1;", 3, 25);
        refused("person plain;owes 1 1;", 3, 18);
        refused("person plain;owes 0 1;owes 0 1;", 4, 27);
        refused("person plain;owes 0 1 to 0;", 4, 25);
        refused("law giver;law giver;", 5, 10);
        refused("law giver;law 5;", 5, 10);
        refused("within 1;law giver;within 1;", 5, 19);
        refused("within 0;within 0;", 5, 9);
        refused("person plain;owes 0 1;owes 0 5000 to 0;x", 4, 27);
    }

    private static void tooMany() {
        refused(SIX + "person x", 2, SIX.length());
        String twelve = "person plain;" + "thing 1 1 0;".repeat(12);
        refused(twelve + "thing 1", 2, twelve.length());
        HeavyGifts x = Check.town(SIX);
        Check.same("six people", 6, () -> x.count(0));
        HeavyGifts y = Check.town(twelve);
        Check.same("twelve things", 12, () -> y.count(1));
        Check.same("all of one", 4095, () -> y.person(0, 4));
        Check.noSuch("no 13th", () -> y.thing(12, 0));
        Check.noSuch("no 7th", () -> x.person(6, 0));
    }

    private static void whatStays() {
        HeavyGifts x = Check.town("person plain;person plain;thing 3 4 0;owes 0 3;within 2;law anyone;");
        Check.same("give", 0, () -> x.give(0, 1, 0, 1));
        Check.same("week", 1, () -> x.week(0));
        x.image();
        Check.same("a fault", 3, () -> Check.tell(x, "person plain;owes 3 5;"));
        Check.same("its place", 18, x::fault);
        Check.same("people stay", 2, () -> x.count(0));
        Check.same("within stays", 2, () -> x.count(3));
        Check.same("book stays", 1, () -> x.count(5));
        Check.same("order stays", 1, () -> x.order(0));
        Check.same("tape is empty", 0, () -> x.count(6));
        Check.same("image stays", 1, () -> x.restore() ? 1 : 0);
        Check.same("status as in the image", 0, () -> x.count(7));
        Check.illegal("none on the tape", () -> x.town(1));
        Check.same("a fault's place stays", 18, x::fault);
        x.days(3);
        Check.same("trouble", 1, () -> x.give(9, 0, 0, 0));
        Check.same("another fault", 1, () -> Check.tell(x, "y"));
        Check.same("all anew", 0, () -> Check.tell(x, "person least;"));
        Check.same("no fault any more", -1, x::fault);
        Check.same("day", 0, () -> x.count(4));
        Check.same("book", 0, () -> x.count(5));
        Check.same("things", 0, () -> x.count(1));
        Check.same("law", 0, () -> x.count(2));
        Check.same("texts refused", 1, () -> x.count(7));
        Check.same("gifts refused", 1, () -> x.count(8));
        Check.noSuch("order", () -> x.order(0));
        Check.same("image", 0, () -> x.restore() ? 1 : 0);
        Check.same("undo", -1, x::undo);
    }

    private static void wrongAsked() {
        HeavyGifts x = Check.town("person plain;person plain;thing 3 4 0;");
        int[] wrong = {-1, 9, 100, Integer.MIN_VALUE, Integer.MAX_VALUE};
        for (int w : wrong) {
            Check.noSuch("count " + w, () -> x.count(w));
            Check.noSuch("person " + w, () -> x.person(w, 0));
            Check.noSuch("thing " + w, () -> x.thing(w, 0));
            Check.noSuch("what of a person " + w, () -> x.person(0, w));
            Check.noSuch("what of a thing " + w, () -> x.thing(0, w));
        }
        Check.noSuch("what 7 of a person", () -> x.person(0, 7));
        Check.noSuch("what 4 of a thing", () -> x.thing(0, 4));
        Check.noSuch("person 2", () -> x.person(2, 0));
        Check.noSuch("thing 1", () -> x.thing(1, 0));
    }
}
