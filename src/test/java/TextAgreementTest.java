/** Many texts, good ones and ones with a few bytes or tokens wrong, which must be read as PlainText reads them. */
public final class TextAgreementTest {
    private static final String[] TOKENS = {"person", "thing", "owes", "law", "within", "sand", "plain", "least",
        "fewest", "aim", "wait", "wet", "to", "giver", "anyone", ";", ";", "0", "1", "2", "5", "6", "9", "10", "11", "12",
        "99", "100", "999", "1000", "9999", "00001", "?", "x", "", "\t", "Person"};
    private static final String[] KINDS = {"plain", "least", "fewest", "aim 3", "wait 40"};
    private static long seed = 20261118;
    private static final int[] FAULTS = new int[6];

    public static void main(String[] args) {
        for (int i = 0; i < 40000 && Check.wrongOnes() < 20; i++) {
            compare(spoilt(goodText(), below(4)));
        }
        for (int fault = 0; fault < FAULTS.length; fault++) {
            int seen = FAULTS[fault];
            Check.same("enough texts of fault " + fault + ": " + seen, 1, () -> seen > 300 ? 1 : 0);
        }
        Check.end();
    }

    private static int below(int n) {
        seed = seed * 6364136223846793005L + 1442695040888963407L;
        return (int) ((seed >>> 33) % n);
    }

    private static String goodText() {
        StringBuilder b = new StringBuilder();
        int people = below(8) == 0 ? 6 : 1 + below(4);
        int things = below(8) == 0 ? 12 : below(4);
        for (int i = 0; i < people; i++) {
            b.append(below(2) == 0 ? "person " : "person sand " + below(100) + " ").append(KINDS[below(5)]).append(" ; ");
        }
        for (int i = 0; i < things; i++) {
            b.append("thing ").append(1 + below(99)).append(" ").append(below(1000)).append(" ").append(below(people));
            b.append(below(3) == 0 ? " wet ; " : " ; ");
        }
        for (int i = 0; i < people; i++) {
            if (below(2) == 0) {
                int other = below(people);
                b.append("owes ").append(i).append(" ").append(1 + below(999));
                b.append(other == i || below(2) == 0 ? " ; " : " to " + other + " ; ");
            }
        }
        b.append(below(2) == 0 ? "law anyone ; " : "").append(below(2) == 0 ? "within " + below(10) + " ; " : "");
        return b.toString();
    }

    private static String spoilt(String text, int times) {
        String[] tokens = text.split(" ");
        String tail = "";
        for (int i = 0; i < times; i++) {
            int at = below(tokens.length);
            switch (below(4)) {
                case 0 -> tokens[at] = TOKENS[below(TOKENS.length)];
                case 1 -> tokens[at] = tokens[below(tokens.length)];
                case 2 -> tail = " " + text.substring(text.lastIndexOf("; ", below(text.length() - 1) + 1) + 1);
                default -> tokens[at] = tokens[at] + (char) below(256);
            }
        }
        String whole = String.join(below(5) == 0 ? "\n" : " ", tokens) + tail;
        int end = below(6) == 0 ? below(whole.length()) : whole.length();
        return whole.substring(0, Math.min(end, 700));
    }

    private static void compare(String text) {
        PlainText due = new PlainText(text);
        FAULTS[due.fault]++;
        HeavyGifts x = new HeavyGifts();
        String name = "'" + text + "'";
        Check.same("fault of " + name, due.fault, () -> Check.tell(x, text));
        Check.same("place in " + name, due.place, x::fault);
        PlainTown t = due.fault == 0 ? due.town : new PlainTown();
        Check.same("people of " + name, t.people, () -> x.count(0));
        Check.same("things of " + name, t.things, () -> x.count(1));
        Check.same("law of " + name, t.law, () -> x.count(2));
        Check.same("within of " + name, t.within, () -> x.count(3));
        for (int i = 0; i < t.people; i++) {
            int p = i;
            Check.same("kind " + p + " of " + name, t.kind[p], () -> x.person(p, 0));
            Check.same("sand " + p + " of " + name, t.sand[p], () -> x.person(p, 1));
            Check.same("owed " + p + " of " + name, t.owed[p], () -> x.person(p, 2));
            Check.same("to " + p + " of " + name, t.to[p], () -> x.person(p, 3));
            Check.same("has " + p + " of " + name, t.bitsOf(p), () -> x.person(p, 4));
        }
        for (int i = 0; i < t.things; i++) {
            int thing = i;
            Check.same("weight " + i + " of " + name, t.weight[i], () -> x.thing(thing, 0));
            Check.same("worth " + i + " of " + name, t.worth[i], () -> x.thing(thing, 1));
            Check.same("wet " + i + " of " + name, t.wet[i] ? 1 : 0, () -> x.thing(thing, 3));
        }
    }
}
