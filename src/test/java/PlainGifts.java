import java.util.ArrayList;
import java.util.List;
import java.util.NoSuchElementException;

/** A whole object once more, with tape, book, order, image and status, for RunsAgreementTest to compare with. */
final class PlainGifts {
    private record Entry(PlainTown ahead, PlainTown.Gift gift, int weight) {
    }

    private record Image(PlainTown town, List<Entry> book, int texts, int gifts) {
    }

    private PlainTown town = new PlainTown();
    private List<Entry> book = new ArrayList<>();
    private List<Integer> order = List.of();
    private Image image = null;
    private String tape = "";
    private int place = -1;
    private int refusedTexts = 0;
    private int refusedGifts = 0;

    int feed(int... numbers) {
        StringBuilder more = new StringBuilder(tape);
        for (int number : numbers) {
            for (int i = 3; i >= 0; i--) {
                more.append((char) (number >> 8 * i & 255));
            }
        }
        if (more.length() > 700) {
            return -1;
        }
        tape = more.toString();
        return tape.length();
    }

    int town(int n) {
        illegalIf(n < 0 || n > tape.length());
        PlainText text = new PlainText(tape.substring(0, n));
        tape = "";
        place = text.place;
        if (text.fault != 0) {
            refusedTexts++;
            return text.fault;
        }
        town = text.town;
        book = new ArrayList<>();
        order = List.of();
        image = null;
        return 0;
    }

    int fault() {
        return place;
    }

    int count(int what) {
        int[] all = {town.people, town.things, town.law, town.within, town.day, book.size(), tape.length(),
            refusedTexts, refusedGifts};
        return all[asked(what, all.length)];
    }

    int person(int p, int what) {
        askPerson(p);
        int has = town.bitsOf(p);
        int[] all = {town.kind[p], town.sand[p], town.owed[p], town.to[p], has, town.sum(has, town.worth),
            town.sum(has, town.weight)};
        return all[asked(what, all.length)];
    }

    int thing(int thing, int what) {
        asked(thing, town.things);
        int[] all = {town.weight[thing], town.worth[thing], town.holder[thing], town.wet[thing] ? 1 : 0};
        return all[asked(what, all.length)];
    }

    int give(int p, int set, int grains, int other) {
        int trouble = town.trouble(p, set, grains, other);
        if (trouble == 0 && book.size() == 200) {
            trouble = 7;
        }
        if (trouble != 0) {
            refusedGifts++;
            return trouble;
        }
        write(new PlainTown.Gift(p, set, grains, other));
        return 0;
    }

    int judge(int p, int set, int grains, int other) {
        return town.trouble(p, set, grains, other);
    }

    private void write(PlainTown.Gift gift) {
        book.add(new Entry(town.copy(), gift, town.sum(gift.set(), town.weight) + gift.sand()));
        town.make(gift);
    }

    int undo() {
        if (book.isEmpty()) {
            return -1;
        }
        PlainTown back = book.remove(book.size() - 1).ahead().copy();
        back.day = town.day;
        back.weight = town.weight;
        town = back;
        return book.size();
    }

    int gift(int i, int what) {
        Entry e = book.get(asked(i, book.size()));
        int[] all = {e.gift().by(), e.gift().set(), e.gift().sand(), e.gift().to(), e.weight()};
        return all[asked(what, all.length)];
    }

    int sets(int p) {
        askPerson(p);
        return town.fits(p).size();
    }

    int choice(int p, int what) {
        askPerson(p);
        asked(what, 3);
        PlainTown.Gift g = town.choice(p);
        return g == null ? -1 : new int[] {g.set(), g.sand(), g.to()}[what];
    }

    int gap(int p) {
        askPerson(p);
        return town.gap(p);
    }

    int week(int what) {
        asked(what, 3);
        List<Integer> found = town.week();
        order = found == null ? order : found;
        return town.tries > 20000 ? -2 : new int[] {found == null ? 0 : 1, town.most, town.tries}[what];
    }

    int order(int i) {
        return order.get(asked(i, order.size()));
    }

    int get(int p, int thing) {
        askPerson(p);
        return town.toGet(p, asked(thing, town.things));
    }

    int cut(int p, int what) {
        askPerson(p);
        asked(what, 2);
        List<Integer> cuts = town.cuts(p);
        return what == 0 ? cuts.size() : cuts.isEmpty() ? -1 : cuts.get(0);
    }

    int keep(int n, int i) {
        illegalIf(n < 1 || n > 999);
        List<Integer> weights = new ArrayList<>();
        int together = 0;
        for (int next = 1; together < n; next *= 2) {
            weights.add(Math.min(next, n - together));
            together += next;
        }
        return i == -1 ? weights.size() : weights.get(asked(i, weights.size()));
    }

    int fewest(int n) {
        illegalIf(n < 1 || n > 999);
        return town.fewestFor(n);
    }

    int answers(int p, int n, boolean sand) {
        askPerson(p);
        illegalIf(n < 1 || n > 999);
        return town.answers(p, n, sand);
    }

    int round(int p, int what) {
        askPerson(p);
        return town.roundFrom(p)[asked(what, 3)];
    }

    int days(int days) {
        illegalIf(days < 0 || days > 60);
        int before = book.size();
        for (int i = 0; i < days; i++) {
            PlainTown then = town.copy();
            for (PlainTown.Gift gift : then.passDay(200 - book.size())) {
                write(gift);
            }
            town.weight = then.weight;
            town.day = then.day;
        }
        return book.size() - before;
    }

    int still() {
        return town.stillDay();
    }

    void image() {
        image = new Image(town.copy(), new ArrayList<>(book), refusedTexts, refusedGifts);
    }

    boolean restore() {
        if (image == null) {
            return false;
        }
        town = image.town().copy();
        book = new ArrayList<>(image.book());
        refusedTexts = image.texts();
        refusedGifts = image.gifts();
        return true;
    }

    private void askPerson(int p) {
        asked(p, town.people);
    }

    private static int asked(int i, int many) {
        if (i < 0 || i >= many) {
            throw new NoSuchElementException();
        }
        return i;
    }

    private static void illegalIf(boolean wrong) {
        if (wrong) {
            throw new IllegalArgumentException();
        }
    }
}
