import java.util.LinkedHashMap;
import java.util.List;
import java.util.Map;
import java.util.TreeSet;

/** Two objects made alike, of which only one gets a call: what the call changes is where they answer otherwise. */
final class Twins {
    interface Maker {
        HeavyGifts make();
    }

    interface On {
        long run(HeavyGifts x);
    }

    /** Ways to look at what can't be seen at once: gifts taken back, the image, what stands on the tape. */
    private static final int WAYS = 4;
    private static final int GIFTS_SEEN = 3;

    private Twins() {
    }

    /** Has something of all that a call could change: two gifts, a day, an image, an order, a fault, a tape. */
    static HeavyGifts rich() {
        HeavyGifts x = richWithoutTape();
        Check.feed(x, "person plain;person aim 2;");
        return x;
    }

    static HeavyGifts richWithoutTape() {
        HeavyGifts x = new HeavyGifts();
        Check.tell(x, "person sand 9 plain;person least;person wait 3;thing 5 10 0;thing 3 1 0 wet;thing 4 2 1;"
                + "thing 7 0 2;owes 0 8;owes 2 7 to 1;within 1;law anyone;");
        x.give(9, 0, 0, 0);
        Check.tell(x, "  x");
        x.week(0);
        x.image();
        x.give(0, 3, 0, 1);
        x.give(1, 6, 0, 2);
        x.days(1);
        return x;
    }

    /** The call answers what is due, and all is as without it. */
    static void changesNothing(String what, Maker maker, long due, On call) {
        changesOnly(what, maker, due, call);
    }

    /** The call answers what is due, and all answers but these ("count(8)" and the like) are as without it. */
    static void changesOnly(String what, Maker maker, long due, On call, String... others) {
        String asDue = new TreeSet<>(List.of(others)).toString();
        for (int way = 0; way < WAYS; way++) {
            HeavyGifts called = maker.make();
            HeavyGifts left = maker.make();
            Check.same(what, due, () -> call.run(called));
            String changed = otherAnswers(seen(left), seen(called)).toString();
            Check.same(what + " must change " + asDue + ", changed " + changed, 1, () -> changed.equals(asDue) ? 1 : 0);
            TreeSet<String> later = otherAnswers(seenBy(way, left), seenBy(way, called));
            later.removeAll(List.of(others));
            Check.same(what + " changed, as seen in way " + way + ", " + later, 0, later::size);
        }
    }

    private static TreeSet<String> otherAnswers(Map<String, Long> due, Map<String, Long> got) {
        TreeSet<String> names = new TreeSet<>(due.keySet());
        names.addAll(got.keySet());
        names.removeIf(name -> due.containsKey(name) && due.get(name).equals(got.get(name)));
        return names;
    }

    private static Map<String, Long> seenBy(int way, HeavyGifts x) {
        switch (way) {
            case 1:
                x.undo();
                break;
            case 2:
                Check.answer(() -> x.restore() ? 1 : 0);
                break;
            case 3:
                Check.answer(() -> x.town(x.count(6)));
                break;
            default:
                Check.answer(() -> x.days(1));
        }
        return seen(x);
    }

    /** All that an object tells of its state without a change. */
    static Map<String, Long> seen(HeavyGifts x) {
        Map<String, Long> all = new LinkedHashMap<>();
        all.put("fault", (long) x.fault());
        for (int i = 0; i < 9; i++) {
            all.put("count(" + i + ")", (long) x.count(i));
        }
        for (int p = 0; p < x.count(0); p++) {
            seePerson(all, x, p);
        }
        for (int t = 0; t < x.count(1); t++) {
            for (int i = 0; i < 4; i++) {
                all.put("thing(" + t + ", " + i + ")", (long) x.thing(t, i));
            }
        }
        for (int g = 1; g <= x.count(5) && g <= GIFTS_SEEN; g++) {
            for (int i = 0; i < 5; i++) {
                all.put("the last gift but " + (g - 1) + ", " + i, (long) x.gift(x.count(5) - g, i));
            }
        }
        for (int i = 0; i < 6; i++) {
            int at = i;
            all.put("order(" + i + ")", Check.answer(() -> x.order(at)));
        }
        return all;
    }

    private static void seePerson(Map<String, Long> all, HeavyGifts x, int p) {
        for (int i = 0; i < 7; i++) {
            all.put("person(" + p + ", " + i + ")", (long) x.person(p, i));
        }
        all.put("sets(" + p + ")", (long) x.sets(p));
        all.put("gap(" + p + ")", (long) x.gap(p));
        all.put("choice(" + p + ", 2)", (long) x.choice(p, 2));
    }
}
