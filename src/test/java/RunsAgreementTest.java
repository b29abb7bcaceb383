import java.util.ArrayList;
import java.util.Arrays;
import java.util.List;

/** Whole runs of any calls on one object, each of which must answer as PlainGifts does. */
public final class RunsAgreementTest {
    private static final int RUNS = 900;
    private static final int CALLS = 512;
    private static final int[] EDGES = {Integer.MIN_VALUE, -2, -1, 0, 1, 2, 3, 4, 5, 6, 7, 8, 9, 10, 11, 12, 13, 59, 60,
        61, 100, 998, 999, 1000, 4095, 4096, Integer.MAX_VALUE};
    private static final String[] KINDS = {"plain", "least", "fewest", "aim ", "wait "};
    private static final String[] WRONG = {"?", "person 1;", "owes 9 1;", "thing 1 1 0", "within 10;", "law law;"};

    /** What must have happened in some runs, so that these are worth something. */
    private static final String[] SEEN = {"town", "fault", "gift", "full", "undo", "order", "restore", "day gifts"};
    private static final int[] TIMES = new int[SEEN.length];

    private static long seed = 1;
    private static HeavyGifts x;
    private static PlainGifts due;
    private static List<String> run;
    private static int calls;

    public static void main(String[] args) {
        seed = args.length > 0 ? Long.parseLong(args[0]) : 20261119;
        int runs = args.length > 1 ? Integer.parseInt(args[1]) : RUNS;
        for (int i = 0; i < runs && Check.wrongOnes() < 5; i++) {
            oneRun(below(4) == 0 ? CALLS : 60);
        }
        for (int i = 0; i < SEEN.length; i++) {
            int times = TIMES[i];
            Check.same("how often '" + SEEN[i] + "' was seen, " + times + ", is enough", 1, () -> times > 20 ? 1 : 0);
        }
        Check.end();
    }

    private static int below(int n) {
        seed = seed * 6364136223846793005L + 1442695040888963407L;
        return (int) ((seed >>> 33) % n);
    }

    private static void oneRun(int length) {
        x = new HeavyGifts();
        due = new PlainGifts();
        run = new ArrayList<>();
        calls = 0;
        int wrong = Check.wrongOnes();
        boolean lively = below(2) == 0;
        while (calls < length - 1 && Check.wrongOnes() == wrong) {
            if (calls == 0 || below(lively ? 90 : 25) == 0) {
                tellTown(length);
            } else {
                oneCall(below(30));
            }
        }
        if (Check.wrongOnes() > wrong) {
            System.out.println("    the run: " + run);
        }
    }

    private static long same(String name, Check.Call mine, Check.Call plain) {
        calls++;
        run.add(name);
        long answer = Check.answer(plain);
        Check.same(name + ", call " + calls, answer, mine);
        return answer;
    }

    private static void seen(int what, boolean was) {
        TIMES[what] += was ? 1 : 0;
    }

    private static void tellTown(int length) {
        String text = madeText();
        int at = 0;
        for (; at < text.length() && calls < length - 1; at += 20) {
            int[] n = new int[5];
            for (int i = 0; i < 20; i++) {
                n[i / 4] = n[i / 4] << 8 | (at + i < text.length() ? text.charAt(at + i) : ' ');
            }
            same("feed" + Arrays.toString(n), () -> x.feed(n[0], n[1], n[2], n[3], n[4]), () -> due.feed(n));
        }
        int end = below(12) == 0 ? below(text.length() + 40) : text.length();
        long fault = same("town(" + end + ")", () -> x.town(end), () -> due.town(end));
        seen(0, fault == 0);
        seen(1, fault > 0);
    }

    private static String madeText() {
        StringBuilder b = new StringBuilder();
        int people = below(10) == 0 ? below(7) : 2 + below(4);
        int things = people == 0 ? 0 : below(below(6) == 0 ? 13 : 8);
        int heavy = 1 + below(below(4) == 0 ? 30 : 5);
        for (int p = 0; p < people; p++) {
            int kind = below(5);
            b.append("person ").append(below(3) == 0 ? "sand " + below(9) + " " : "").append(KINDS[kind]);
            b.append(kind == 3 ? "" + below(12) : kind == 4 ? "" + below(9) : "").append(";");
        }
        for (int i = 0; i < things; i++) {
            b.append("thing ").append(1 + below(heavy)).append(" ").append(below(10)).append(" ").append(below(people));
            b.append(below(5) == 0 ? " wet;" : ";");
        }
        for (int p = 0; p < people; p++) {
            if (below(3) > 0) {
                int other = below(people);
                b.append("owes ").append(p).append(" ").append(1 + below(2 * heavy));
                b.append(other == p || below(2) == 0 ? ";" : " to " + other + ";");
            }
        }
        b.append(below(2) == 0 ? "law anyone;" : "").append(below(3) == 0 ? "within " + below(10) + ";" : "");
        b.append(below(8) == 0 ? WRONG[below(WRONG.length)] : "");
        return b.length() > 700 ? b.substring(0, 700) : b.toString();
    }

    private static int any() {
        return below(8) == 0 ? EDGES[below(EDGES.length)] : below(4);
    }

    private static int weights() {
        return below(8) == 0 ? EDGES[below(EDGES.length)] : 1 + below(40);
    }

    private static void oneCall(int which) {
        int a = any();
        int b = any();
        int n = weights();
        switch (which) {
            case 0 -> same("fault", x::fault, due::fault);
            case 1, 2 -> same("count(" + n % 9 + ")", () -> x.count(n % 9), () -> due.count(n % 9));
            case 3, 4 -> same("person(" + a + ", " + n % 7 + ")", () -> x.person(a, n % 7), () -> due.person(a, n % 7));
            case 5, 6 -> same("thing(" + b + ", " + a + ")", () -> x.thing(b, a), () -> due.thing(b, a));
            case 7 -> undo();
            case 8 -> lastGift();
            case 9 -> same("sets(" + a + ")", () -> x.sets(a), () -> due.sets(a));
            case 10 -> same("choice(" + a + ", " + b + ")", () -> x.choice(a, b), () -> due.choice(a, b));
            case 11 -> same("gap(" + a + ")", () -> x.gap(a), () -> due.gap(a));
            case 12 -> search(a, b);
            case 13, 14 -> seen(5, same("order(" + a + ")", () -> x.order(a), () -> due.order(a)) >= 0);
            case 15 -> same("cut(" + a + ", " + b + ")", () -> x.cut(a, b), () -> due.cut(a, b));
            case 16 -> same("keep(" + n + ", " + b + ")", () -> x.keep(n, b), () -> due.keep(n, b));
            case 17 -> same("fewest(" + n + ")", () -> x.fewest(n), () -> due.fewest(n));
            case 18 -> same("answers(" + a + ", " + n + ", " + (b > 1) + ")",
                    () -> x.answers(a, n, b > 1), () -> due.answers(a, n, b > 1));
            case 19 -> same("round(" + a + ", " + b + ")", () -> x.round(a, b), () -> due.round(a, b));
            case 20, 21 -> pass(below(6) == 0 ? EDGES[below(EDGES.length)] : below(3));
            case 22 -> same("still", x::still, due::still);
            case 23 -> image();
            case 24 -> seen(6, same("restore", () -> x.restore() ? 1 : 0, () -> due.restore() ? 1 : 0) == 1);
            case 25 -> same("feed", () -> x.feed(a, b, n, a, b), () -> due.feed(a, b, n, a, b));
            default -> anyGift(a);
        }
    }

    private static void undo() {
        seen(4, same("undo", x::undo, due::undo) >= 0);
    }

    private static void lastGift() {
        int i = below(3) == 0 ? any() : due.count(5) - 1;
        int what = any();
        same("gift(" + i + ", " + what + ")", () -> x.gift(i, what), () -> due.gift(i, what));
    }

    private static void search(int a, int b) {
        if (below(2) == 0) {
            same("week(" + b + ")", () -> x.week(b), () -> due.week(b));
        } else {
            same("get(" + a + ", " + b + ")", () -> x.get(a, b), () -> due.get(a, b));
        }
    }

    private static void pass(int days) {
        seen(7, same("days(" + days + ")", () -> x.days(days), () -> due.days(days)) > 0);
    }

    private static void image() {
        run.add("image");
        calls++;
        x.image();
        due.image();
    }

    /** Mostly the choice of one who has one, now and then with something else in it. */
    private static void anyGift(int person) {
        boolean chosen = person >= 0 && person < due.count(0) && due.choice(person, 0) >= 0 && below(4) > 0;
        int set = chosen ? due.choice(person, 0) : any();
        int grains = chosen ? due.choice(person, 1) + (below(6) == 0 ? 1 : 0) : any();
        int other = chosen && below(6) > 0 ? due.choice(person, 2) : any();
        String asked = "(" + person + ", " + set + ", " + grains + ", " + other + ")";
        same("judge" + asked, () -> x.judge(person, set, grains, other), () -> due.judge(person, set, grains, other));
        long trouble = same("give" + asked, () -> x.give(person, set, grains, other),
                () -> due.give(person, set, grains, other));
        seen(2, trouble == 0);
        seen(3, trouble == 7);
    }
}
