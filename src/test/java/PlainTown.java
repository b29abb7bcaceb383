import java.util.ArrayDeque;
import java.util.ArrayList;
import java.util.Arrays;
import java.util.HashMap;
import java.util.HashSet;
import java.util.List;
import java.util.Map;
import java.util.Set;

/** The document's words once more, as slowly and plainly as can be, for AgreementTest to compare with. */
final class PlainTown {
    int people;
    int things;
    int law;
    int within;
    int day;
    int[] kind = new int[6];
    int[] goal = new int[6];
    int[] sand = new int[6];
    int[] owed = new int[6];
    int[] to = new int[6];
    int[] weight = new int[12];
    int[] worth = new int[12];
    int[] holder = new int[12];
    boolean[] wet = new boolean[12];

    record Gift(int by, int set, int sand, int to) {
    }

    PlainTown copy() {
        PlainTown t = new PlainTown();
        t.people = people;
        t.things = things;
        t.law = law;
        t.within = within;
        t.day = day;
        t.kind = kind.clone();
        t.goal = goal.clone();
        t.sand = sand.clone();
        t.owed = owed.clone();
        t.to = to.clone();
        t.weight = weight.clone();
        t.worth = worth.clone();
        t.holder = holder.clone();
        t.wet = wet.clone();
        return t;
    }

    String state() {
        return Arrays.toString(sand) + Arrays.toString(owed) + Arrays.toString(to) + Arrays.toString(holder);
    }

    int sum(int set, int[] of) {
        int s = 0;
        for (int i = 0; i < things; i++) {
            if ((set >> i & 1) == 1) {
                s += of[i];
            }
        }
        return s;
    }

    int bitsOf(int p) {
        int b = 0;
        for (int i = 0; i < things; i++) {
            if (holder[i] == p) {
                b |= 1 << i;
            }
        }
        return b;
    }

    int trouble(int p, int set, int grains, int other) {
        if (p < 0 || p >= people || other < 0 || other >= people || grains < 0) {
            return 1;
        }
        for (int i = 0; i < 32; i++) {
            if ((set >> i & 1) == 1 && i >= things) {
                return 1;
            }
        }
        if (owed[p] == 0) {
            return 2;
        }
        for (int i = 0; i < things; i++) {
            if ((set >> i & 1) == 1 && holder[i] != p) {
                return 3;
            }
        }
        if (grains > sand[p]) {
            return 3;
        }
        if (other == p || to[p] >= 0 && to[p] != other) {
            return 4;
        }
        int w = sum(set, weight) + grains;
        if (w < owed[p] - within || w < 1) {
            return 5;
        }
        return w > owed[p] + within ? 6 : 0;
    }

    /** The least sand by which a set answers what is owed; -1: it does not fit. */
    int leastSand(int p, int set) {
        if (people < 2 || owed[p] == 0 || (set & ~bitsOf(p)) != 0) {
            return -1;
        }
        for (int grains = 0; grains <= sand[p]; grains++) {
            int w = sum(set, weight) + grains;
            if (w >= 1 && Math.abs(w - owed[p]) <= within) {
                return grains;
            }
        }
        return -1;
    }

    List<Integer> fits(int p) {
        List<Integer> all = new ArrayList<>();
        for (int set = 0; set < 1 << things; set++) {
            if ((set & ~bitsOf(p)) == 0 && leastSand(p, set) >= 0) {
                all.add(set);
            }
        }
        return all;
    }

    int whom(int p) {
        if (to[p] >= 0) {
            return to[p];
        }
        if (kind[p] == 3 && goal[p] < things && holder[goal[p]] != p) {
            return holder[goal[p]];
        }
        return p == people - 1 ? 0 : p + 1;
    }

    Gift choice(int p) {
        int best = -1;
        for (int set : fits(p)) {
            boolean may = kind[p] == 3 ? (set >> goal[p] & 1) == 0 : kind[p] != 4 || day >= goal[p];
            if (may && (best < 0 || cost(p, set) < cost(p, best))) {
                best = set;
            }
        }
        return best < 0 ? null : new Gift(p, best, leastSand(p, best), whom(p));
    }

    private int cost(int p, int set) {
        return kind[p] == 1 ? sum(set, worth) : kind[p] == 2 ? Integer.bitCount(set) : 0;
    }

    void hand(Gift g) {
        for (int i = 0; i < things; i++) {
            if ((g.set >> i & 1) == 1) {
                holder[i] = g.to;
            }
        }
        sand[g.by] -= g.sand;
        sand[g.to] += g.sand;
    }

    void make(Gift g) {
        hand(g);
        owed[g.by] = 0;
        to[g.by] = -1;
        owed[g.to] = sum(g.set, weight) + g.sand;
        to[g.to] = law == 1 ? -1 : g.by;
    }

    int gap(int p) {
        if (owed[p] == 0) {
            return -1;
        }
        int best = -1;
        for (int set = 0; set < 1 << things; set++) {
            if ((set & ~bitsOf(p)) != 0) {
                continue;
            }
            for (int grains = 0; grains <= sand[p]; grains++) {
                int w = sum(set, weight) + grains;
                int off = Math.abs(w - owed[p]);
                best = w >= 1 && (best < 0 || off < best) ? off : best;
            }
        }
        return best < 0 ? owed[p] : Math.max(0, best - within);
    }

    /** The first order, or null; the most and the tries are left in these two. */
    int most;
    int tries;

    List<Integer> week() {
        most = 0;
        tries = 0;
        List<Integer> owing = new ArrayList<>();
        for (int p = 0; p < people; p++) {
            if (owed[p] > 0) {
                owing.add(p);
            }
        }
        return weekFrom(this, owing, new ArrayList<>());
    }

    private List<Integer> weekFrom(PlainTown now, List<Integer> left, List<Integer> done) {
        most = Math.max(most, done.size());
        if (left.isEmpty()) {
            return done;
        }
        for (Integer p : left) {
            for (int set : now.fits(p)) {
                tries++;
                if (tries > 20000) {
                    return null;
                }
                PlainTown then = now.copy();
                then.hand(new Gift(p, set, now.leastSand(p, set), now.whom(p)));
                List<Integer> rest = new ArrayList<>(left);
                rest.remove(p);
                List<Integer> row = new ArrayList<>(done);
                row.add(p);
                List<Integer> found = weekFrom(then, rest, row);
                if (found != null || tries > 20000) {
                    return found;
                }
            }
        }
        return null;
    }

    int toGet(int seeker, int thing) {
        Map<String, Integer> far = new HashMap<>();
        ArrayDeque<PlainTown> queue = new ArrayDeque<>();
        far.put(state(), 0);
        queue.add(copy());
        int answer = -1;
        while (!queue.isEmpty()) {
            PlainTown now = queue.remove();
            int gifts = far.get(now.state());
            if (now.holder[thing] == seeker) {
                answer = answer < 0 ? gifts : answer;
                continue;
            }
            for (Gift g : now.giftsFor(seeker)) {
                PlainTown then = now.copy();
                then.make(g);
                if (far.putIfAbsent(then.state(), gifts + 1) == null) {
                    queue.add(then);
                }
                if (far.size() > 1000) {
                    return -2;
                }
            }
        }
        return answer;
    }

    private List<Gift> giftsFor(int seeker) {
        List<Gift> all = new ArrayList<>();
        for (int p = 0; p < people; p++) {
            if (p != seeker && choice(p) != null) {
                all.add(choice(p));
            }
        }
        for (int set : fits(seeker)) {
            for (int other = 0; other < people; other++) {
                int grains = leastSand(seeker, set);
                if (trouble(seeker, set, grains, other) == 0) {
                    all.add(new Gift(seeker, set, grains, other));
                }
            }
        }
        return all;
    }

    List<Integer> cuts(int p) {
        List<Integer> all = new ArrayList<>();
        if (owed[p] == 0 || !fits(p).isEmpty()) {
            return all;
        }
        for (int i = 0; i < things; i++) {
            for (int part = 1; holder[i] == p && part <= weight[i] - part; part++) {
                PlainTown one = copy();
                one.weight[i] = part;
                PlainTown two = copy();
                two.weight[i] = weight[i] - part;
                if (!one.fits(p).isEmpty() || !two.fits(p).isEmpty()) {
                    all.add(100 * i + part);
                }
            }
        }
        return all;
    }

    int fewestFor(int n) {
        int best = -1;
        for (int set = 0; set < 1 << things; set++) {
            if (best >= 0 && Integer.bitCount(set) >= Integer.bitCount(best)) {
                continue;
            }
            Set<Integer> sums = sumsOf(set);
            boolean all = true;
            for (int w = 1; w <= n && all; w++) {
                all = sums.contains(w);
            }
            best = all ? set : best;
        }
        return best;
    }

    private Set<Integer> sumsOf(int set) {
        Set<Integer> sums = new HashSet<>();
        for (int part = set; part > 0; part = part - 1 & set) {
            sums.add(sum(part, weight));
        }
        sums.add(0);
        return sums;
    }

    int answers(int p, int n, boolean withSand) {
        Set<Integer> sums = sumsOf(bitsOf(p));
        int many = 0;
        for (int w = 1; w <= n; w++) {
            boolean can = false;
            for (int grains = 0; grains <= (withSand ? sand[p] : 0); grains++) {
                can |= sums.contains(w - grains);
            }
            many += can ? 1 : 0;
        }
        return many;
    }

    int[] roundFrom(int p) {
        PlainTown t = copy();
        int gifts = 0;
        int last = p;
        do {
            Gift g = t.choice(last);
            if (g == null) {
                break;
            }
            t.make(g);
            gifts++;
            last = g.to;
        } while (last != p && gifts < 20);
        return new int[] {gifts, last, t.sum(t.bitsOf(p), worth) - sum(bitsOf(p), worth)};
    }

    List<Gift> passDay(int room) {
        List<Gift> made = new ArrayList<>();
        for (int p = 0; p < people; p++) {
            Gift g = choice(p);
            if (g != null && made.size() < room) {
                make(g);
                made.add(g);
            }
        }
        for (int i = 0; i < things; i++) {
            weight[i] = wet[i] ? Math.max(1, weight[i] - 1) : weight[i];
        }
        day++;
        return made;
    }

    int stillDay() {
        PlainTown t = copy();
        for (int i = 0; i < 100; i++) {
            boolean calm = true;
            for (int p = 0; p < people; p++) {
                calm &= !(t.owed[p] > 0 && kind[p] == 4 && t.day < goal[p]);
            }
            for (int j = 0; j < things; j++) {
                calm &= !(wet[j] && t.weight[j] > 1);
            }
            if (t.passDay(9).isEmpty() && calm) {
                return t.day - 1;
            }
        }
        return -1;
    }
}
