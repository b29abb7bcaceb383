import java.util.ArrayList;
import java.util.List;

/** Many towns, made by a plain rule, on which every call must answer as PlainTown does. */
public final class AgreementTest {
    private static long seed = 20261117;
    private static int spentGets = 0;
    private static List<Integer> keptOrder = List.of();
    private static int keptOrders = 0;

    public static void main(String[] args) {
        for (int i = 0; i < 700 && Check.wrongOnes() < 20; i++) {
            oneTown(i);
        }
        Check.same("some gets are spent", 1, () -> spentGets > 0 ? 1 : 0);
        Check.same("some orders outlast a week without one", 1, () -> keptOrders > 0 ? 1 : 0);
        Check.end();
    }

    private static int below(int n) {
        seed = seed * 6364136223846793005L + 1442695040888963407L;
        return (int) ((seed >>> 33) % n);
    }

    private static void oneTown(int number) {
        PlainTown t = madeTown(number);
        HeavyGifts x = Check.town(told(t));
        keptOrder = List.of();
        List<PlainTown> before = new ArrayList<>();
        List<PlainTown.Gift> gifts = new ArrayList<>();
        for (int step = 0; step < 5; step++) {
            compareTown(x, t);
            compareSearches(x, t);
            t = change(x, t, before, gifts);
        }
        compareTown(x, t);
        while (!gifts.isEmpty()) {
            gifts.remove(gifts.size() - 1);
            PlainTown back = before.remove(before.size() - 1);
            back.day = t.day;
            back.weight = t.weight;
            int left = gifts.size();
            Check.same("undo", left, x::undo);
            compareTown(x, back);
        }
        Check.same("nothing to undo", -1, x::undo);
    }

    private static PlainTown madeTown(int number) {
        PlainTown t = new PlainTown();
        t.people = 1 + below(6);
        t.things = below(number % 10 == 0 ? 13 : 8);
        t.law = below(2);
        t.within = below(3) == 0 ? below(10) : below(3) == 0 ? 1 : 0;
        int heavy = 1 + below(number % 3 == 0 ? 20 : 6);
        for (int p = 0; p < t.people; p++) {
            t.kind[p] = below(5);
            t.goal[p] = t.kind[p] == 3 ? below(12) : t.kind[p] == 4 ? below(4) : 0;
            t.sand[p] = below(3) == 0 ? below(6) : 0;
            t.to[p] = -1;
            if (below(3) > 0) {
                t.owed[p] = 1 + below(2 * heavy);
                int other = below(t.people);
                t.to[p] = below(2) == 0 && other != p ? other : -1;
            }
        }
        for (int i = 0; i < t.things; i++) {
            t.weight[i] = 1 + below(heavy);
            t.worth[i] = below(10);
            t.holder[i] = below(t.people);
            t.wet[i] = below(5) == 0;
        }
        return t;
    }

    private static String told(PlainTown t) {
        String[] kinds = {"plain", "least", "fewest", "aim", "wait"};
        StringBuilder b = new StringBuilder(t.law == 1 ? "law anyone;" : "");
        for (int p = 0; p < t.people; p++) {
            b.append("person ").append(t.sand[p] > 0 ? "sand " + t.sand[p] + " " : "").append(kinds[t.kind[p]]);
            b.append(t.kind[p] >= 3 ? " " + t.goal[p] : "").append(";");
        }
        for (int i = 0; i < t.things; i++) {
            b.append("thing ").append(t.weight[i]).append(" ").append(t.worth[i]).append(" ").append(t.holder[i]);
            b.append(t.wet[i] ? " wet;" : ";");
        }
        for (int p = 0; p < t.people; p++) {
            if (t.owed[p] > 0) {
                b.append("owes ").append(p).append(" ").append(t.owed[p]);
                b.append(t.to[p] >= 0 ? " to " + t.to[p] : "").append(";");
            }
        }
        return b.append("within ").append(t.within).append(";").toString();
    }

    private static void compareTown(HeavyGifts x, PlainTown t) {
        String name = told(t) + " day " + t.day;
        Check.same(name + " day", t.day, () -> x.count(4));
        for (int i = 0; i < t.people; i++) {
            int p = i;
            Check.same(name + " sand " + p, t.sand[p], () -> x.person(p, 1));
            Check.same(name + " owed " + p, t.owed[p], () -> x.person(p, 2));
            Check.same(name + " to " + p, t.to[p], () -> x.person(p, 3));
            Check.same(name + " has " + p, t.bitsOf(p), () -> x.person(p, 4));
            Check.same(name + " worth " + p, t.sum(t.bitsOf(p), t.worth), () -> x.person(p, 5));
            Check.same(name + " weight " + p, t.sum(t.bitsOf(p), t.weight), () -> x.person(p, 6));
            Check.same(name + " sets " + p, t.fits(p).size(), () -> x.sets(p));
            PlainTown.Gift g = t.choice(p);
            Check.same(name + " choice 0 " + p, g == null ? -1 : g.set(), () -> x.choice(p, 0));
            Check.same(name + " choice 1 " + p, g == null ? -1 : g.sand(), () -> x.choice(p, 1));
            Check.same(name + " choice 2 " + p, g == null ? -1 : g.to(), () -> x.choice(p, 2));
            Check.same(name + " gap " + p, t.gap(p), () -> x.gap(p));
        }
        for (int i = 0; i < t.things; i++) {
            int thing = i;
            Check.same(name + " weighs " + i, t.weight[i], () -> x.thing(thing, 0));
            Check.same(name + " had by " + i, t.holder[i], () -> x.thing(thing, 2));
        }
    }

    private static void compareSearches(HeavyGifts x, PlainTown t) {
        String name = told(t) + " day " + t.day;
        compareWeek(x, t, name);
        for (int i = 0; i < t.people; i++) {
            int p = i;
            List<Integer> cuts = t.cuts(p);
            Check.same(name + " cuts " + p, cuts.size(), () -> x.cut(p, 0));
            Check.same(name + " first cut " + p, cuts.isEmpty() ? -1 : cuts.get(0), () -> x.cut(p, 1));
            for (int what = 0; what < 3; what++) {
                int w = what;
                Check.same(name + " round " + w + " of " + p, t.roundFrom(p)[w], () -> x.round(p, w));
            }
            int n = 1 + below(40);
            Check.same(name + " answers " + p, t.answers(p, n, true), () -> x.answers(p, n, true));
            Check.same(name + " answers without " + p, t.answers(p, n, false), () -> x.answers(p, n, false));
        }
        if (t.things > 0) {
            int seeker = below(t.people);
            int thing = below(t.things);
            int due = t.toGet(seeker, thing);
            spentGets += due == -2 ? 1 : 0;
            Check.same(name + " get " + seeker + " " + thing, due, () -> x.get(seeker, thing));
        }
        int n = 1 + below(20);
        Check.same(name + " fewest " + n, t.fewestFor(n), () -> x.fewest(n));
        Check.same(name + " still", t.stillDay(), x::still);
    }

    private static void compareWeek(HeavyGifts x, PlainTown t, String name) {
        List<Integer> order = t.week();
        boolean spent = t.tries > 20000;
        Check.same(name + " week 0", spent ? -2 : order == null ? 0 : 1, () -> x.week(0));
        Check.same(name + " week 1", spent ? -2 : t.most, () -> x.week(1));
        Check.same(name + " week 2", spent ? -2 : t.tries, () -> x.week(2));
        keptOrders += order == null && !keptOrder.isEmpty() ? 1 : 0;
        keptOrder = order == null ? keptOrder : order;
        int length = keptOrder.size();
        for (int i = 0; i < length; i++) {
            int at = i;
            Check.same(name + " order " + i, keptOrder.get(i), () -> x.order(at));
        }
        Check.noSuch(name + " order's end", () -> x.order(length));
    }

    private static PlainTown change(HeavyGifts x, PlainTown t, List<PlainTown> before, List<PlainTown.Gift> gifts) {
        PlainTown then = t.copy();
        if (below(2) == 0) {
            int p = below(t.people + 1) - below(2);
            int set = below(3) == 0 || p < 0 || p >= t.people ? below(1 << t.things) : t.bitsOf(p) & below(4096);
            int grains = below(4) - below(2);
            int other = below(t.people + 1);
            List<Integer> fits = p < 0 || p >= t.people ? List.of() : t.fits(p);
            if (!fits.isEmpty() && below(2) == 0) {
                set = fits.get(below(fits.size()));
                grains = t.leastSand(p, set);
                other = t.whom(p);
            }
            int due = t.trouble(p, set, grains, other);
            int s = set;
            int g = grains;
            int o = other;
            Check.same("judge in " + told(t), due, () -> x.judge(p, s, g, o));
            Check.same("give in " + told(t), due, () -> x.give(p, s, g, o));
            if (due == 0) {
                before.add(t);
                gifts.add(new PlainTown.Gift(p, set, grains, other));
                then.make(gifts.get(gifts.size() - 1));
            }
            return then;
        }
        PlainTown walk = t.copy();
        List<PlainTown.Gift> made = then.passDay(9);
        for (PlainTown.Gift g : made) {
            before.add(walk.copy());
            gifts.add(g);
            walk.make(g);
        }
        Check.same("days in " + told(t), made.size(), () -> x.days(1));
        Check.same("book in " + told(t), gifts.size(), () -> x.count(5));
        return then;
    }
}
