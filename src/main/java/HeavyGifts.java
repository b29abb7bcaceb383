import java.util.Arrays;
import java.util.NoSuchElementException;

/** A town in which a gift must weigh what one was given last; ../shared/DOC.md tells all of it. */
public final class HeavyGifts {
    public static final int NONE = -1;

    private static final int SPENT = -2;
    private static final int MAX_PEOPLE = 6;
    private static final int MAX_THINGS = 12;
    private static final int MAX_SETS = 4096;
    private static final int MAX_TAPE = 700;
    private static final int FEED_BYTES = 20;
    private static final int MAX_OWED = 999;
    /* 1 and twice nine times are more than any weight owed. */
    private static final int MAX_KEPT = 10;
    private static final int MAX_DAYS = 60;
    private static final int STILL_DAYS = 100;
    private static final int ROUND_GIFTS = 20;
    private static final int BOOK_IS_FULL = 7;

    private static final int LEAST = 1;
    private static final int FEWEST = 2;
    private static final int AIM = 3;
    private static final int WAIT = 4;

    private final Town town = new Town();
    private final Town spare = new Town();
    private final Book book = new Book();
    private int refusedTexts = 0;
    private int refusedGifts = 0;

    private boolean imageKept = false;
    private final Town imageTown = new Town();
    private final Book imageBook = new Book();
    private int imageTexts = 0;
    private int imageGifts = 0;

    private final Tape tape = new Tape();
    private int faultPlace = NONE;

    private final Week weekSearch = new Week();
    private final int[] keptOrder = new int[MAX_PEOPLE];
    private int keptOrderLength = 0;
    /* Has by far the most rows: made only where it is asked for. */
    private Getting getting = null;
    private final int[] made = new int[MAX_OWED + 1];
    private final int[] byWeight = new int[MAX_THINGS];

    public HeavyGifts() {
    }

    public int feed(int a, int b, int c, int d, int e) {
        if (!tape.hasRoomFor(FEED_BYTES)) {
            return NONE;
        }
        tape.putBytes(a);
        tape.putBytes(b);
        tape.putBytes(c);
        tape.putBytes(d);
        tape.putBytes(e);
        return tape.length();
    }

    public int town(int n) throws IllegalArgumentException {
        if (n < 0 || n > tape.length()) {
            throw new IllegalArgumentException();
        }
        int fault = tape.readTown(n);
        if (fault != 0) {
            faultPlace = tape.place();
            refusedTexts++;
            return fault;
        }
        faultPlace = NONE;
        town.copyFrom(tape.town);
        book.clear();
        keptOrderLength = 0;
        imageKept = false;
        return 0;
    }

    public int fault() {
        return faultPlace;
    }

    public int count(int what) throws NoSuchElementException {
        switch (what) {
            case 0: return town.people;
            case 1: return town.things;
            case 2: return town.law;
            case 3: return town.within;
            case 4: return town.day;
            case 5: return book.length();
            case 6: return tape.length();
            case 7: return refusedTexts;
            case 8: return refusedGifts;
            default: throw new NoSuchElementException();
        }
    }

    public int person(int person, int what) throws NoSuchElementException {
        requirePerson(person);
        switch (what) {
            case 0: return town.kind[person];
            case 1: return town.sand[person];
            case 2: return town.owed[person];
            case 3: return town.owedTo[person];
            case 4: return town.has[person];
            case 5: return town.worthOf(town.has[person]);
            case 6: return town.weightOf(town.has[person]);
            default: throw new NoSuchElementException();
        }
    }

    public int thing(int thing, int what) throws NoSuchElementException {
        requireThing(thing);
        switch (what) {
            case 0: return town.weight[thing];
            case 1: return town.worth[thing];
            case 2: return town.holderOf(thing);
            case 3: return town.wet >>> thing & 1;
            default: throw new NoSuchElementException();
        }
    }

    public int give(int person, int things, int sand, int other) {
        int trouble = town.troubleOf(person, things, sand, other);
        if (trouble == 0 && book.isFull()) {
            trouble = BOOK_IS_FULL;
        }
        if (trouble != 0) {
            refusedGifts++;
            return trouble;
        }
        makeGiftByBook(person, things, sand, other);
        return 0;
    }

    private void makeGiftByBook(int giver, int set, int sand, int taker) {
        book.write(town, giver, set, sand, taker);
        town.makeGift(giver, set, sand, taker);
    }

    public int judge(int person, int things, int sand, int other) {
        return town.troubleOf(person, things, sand, other);
    }

    public int undo() {
        if (book.length() == 0) {
            return NONE;
        }
        book.takeBackLast(town);
        return book.length();
    }

    public int gift(int i, int what) throws NoSuchElementException {
        if (i < 0 || i >= book.length() || what < 0 || what > Book.WEIGHT) {
            throw new NoSuchElementException();
        }
        return book.entry(i, what);
    }

    public int sets(int person) throws NoSuchElementException {
        requirePerson(person);
        int fitting = 0;
        int set = town.nextFit(person, NONE);
        for (int k = 0; k < MAX_SETS && set != NONE; k++) {
            fitting++;
            set = town.nextFit(person, set);
        }
        return fitting;
    }

    public int choice(int person, int what) throws NoSuchElementException {
        requirePerson(person);
        requireWhat(what, 2);
        int set = town.chosenSet(person);
        if (set == NONE) {
            return NONE;
        }
        switch (what) {
            case 0: return set;
            case 1: return town.sandFor(person, set);
            default: return town.takerFor(person);
        }
    }

    public int gap(int person) throws NoSuchElementException {
        requirePerson(person);
        int owed = town.owed[person];
        if (owed == 0) {
            return NONE;
        }
        int off = town.nearestOff(person);
        return off == NONE ? owed : Math.max(0, off - town.within);
    }

    public int week(int what) throws NoSuchElementException {
        requireWhat(what, 2);
        boolean all = weekSearch.tryAll(town);
        if (all) {
            keepOrder();
        }
        if (weekSearch.isSpent()) {
            return SPENT;
        }
        switch (what) {
            case 0: return all ? 1 : 0;
            case 1: return weekSearch.most();
            default: return weekSearch.tries();
        }
    }

    /* Only an order that was found comes in place of the kept one: a week without any leaves that as it is. */
    private void keepOrder() {
        keptOrderLength = Math.min(weekSearch.length(), MAX_PEOPLE);
        for (int i = 0; i < keptOrderLength; i++) {
            keptOrder[i] = weekSearch.personAt(i);
        }
    }

    public int order(int i) throws NoSuchElementException {
        if (i < 0 || i >= keptOrderLength) {
            throw new NoSuchElementException();
        }
        return keptOrder[i];
    }

    public int get(int person, int thing) throws NoSuchElementException {
        requirePerson(person);
        requireThing(thing);
        if (getting == null) {
            getting = new Getting();
        }
        return getting.fewestGifts(town, person, thing);
    }

    public int cut(int person, int what) throws NoSuchElementException {
        requirePerson(person);
        requireWhat(what, 1);
        int cuts = 0;
        int first = NONE;
        if (town.mayAnswer(person) && town.nextFit(person, NONE) == NONE) {
            for (int thing = 0; thing < town.things; thing++) {
                int heaviestPart = town.holds(person, thing) ? town.weight[thing] / 2 : 0;
                for (int part = 1; part <= heaviestPart; part++) {
                    if (town.cutHelps(person, thing, part)) {
                        first = first == NONE ? 100 * thing + part : first;
                        cuts++;
                    }
                }
            }
        }
        return what == 0 ? cuts : first;
    }

    public int keep(int n, int i) throws NoSuchElementException, IllegalArgumentException {
        requireWeights(n);
        int together = 0;
        int weights = 0;
        while (weights < MAX_KEPT && together < n) {
            int weight = Math.min(1 << weights, n - together);
            if (weights == i) {
                return weight;
            }
            together += weight;
            weights++;
        }
        if (i != NONE) {
            throw new NoSuchElementException();
        }
        return weights;
    }

    public int fewest(int n) throws IllegalArgumentException {
        requireWeights(n);
        sortByWeight();
        int best = NONE;
        int bestSize = MAX_THINGS + 1;
        for (int set = 1; set < 1 << town.things; set++) {
            int size = Integer.bitCount(set);
            if (size < bestSize && makesAllTo(set, n)) {
                best = set;
                bestSize = size;
            }
        }
        return best;
    }

    private void sortByWeight() {
        for (int thing = 0; thing < town.things; thing++) {
            int at = thing;
            for (; at > 0 && town.weight[byWeight[at - 1]] > town.weight[thing]; at--) {
                byWeight[at] = byWeight[at - 1];
            }
            byWeight[at] = thing;
        }
    }

    /* From the lightest up: a thing heavier than all lighter ones and 1 leaves a weight that nothing can make. */
    private boolean makesAllTo(int set, int n) {
        int reach = 0;
        for (int i = 0; i < town.things && reach < n; i++) {
            int thing = byWeight[i];
            if ((set >>> thing & 1) == 1) {
                if (town.weight[thing] > reach + 1) {
                    return false;
                }
                reach += town.weight[thing];
            }
        }
        return reach >= n;
    }

    public int answers(int person, int n, boolean sand) throws NoSuchElementException, IllegalArgumentException {
        requirePerson(person);
        requireWeights(n);
        markMadeByThings(person, n);
        int grains = sand ? town.sand[person] : 0;
        int answered = 0;
        int heaviestBelow = 0;
        for (int weight = 1; weight <= n; weight++) {
            if (made[weight] == 1) {
                heaviestBelow = weight;
            }
            if (weight - heaviestBelow <= grains) {
                answered++;
            }
        }
        return answered;
    }

    private void markMadeByThings(int person, int n) {
        Arrays.fill(made, 0);
        made[0] = 1;
        for (int thing = 0; thing < town.things; thing++) {
            if (town.holds(person, thing)) {
                int weight = town.weight[thing];
                for (int sum = n; sum >= weight; sum--) {
                    made[sum] |= made[sum - weight];
                }
            }
        }
    }

    public int round(int person, int what) throws NoSuchElementException {
        requirePerson(person);
        requireWhat(what, 2);
        spare.copyFrom(town);
        int gifts = 0;
        int last = person;
        while (gifts < ROUND_GIFTS && (gifts == 0 || last != person)) {
            int taker = spare.takerFor(last);
            if (!spare.giveByChoice(last)) {
                break;
            }
            last = taker;
            gifts++;
        }
        switch (what) {
            case 0: return gifts;
            case 1: return last;
            default: return spare.worthOf(spare.has[person]) - town.worthOf(town.has[person]);
        }
    }

    public int days(int days) throws IllegalArgumentException {
        if (days < 0 || days > MAX_DAYS) {
            throw new IllegalArgumentException();
        }
        int before = book.length();
        for (int i = 0; i < days; i++) {
            passDayByBook();
        }
        return book.length() - before;
    }

    private void passDayByBook() {
        for (int giver = 0; giver < town.people; giver++) {
            int set = town.chosenSet(giver);
            if (set != NONE && !book.isFull()) {
                makeGiftByBook(giver, set, town.sandFor(giver, set), town.takerFor(giver));
            }
        }
        town.endDay();
    }

    public int still() {
        spare.copyFrom(town);
        for (int i = 0; i < STILL_DAYS; i++) {
            boolean given = false;
            for (int giver = 0; giver < spare.people; giver++) {
                given |= spare.giveByChoice(giver);
            }
            if (!given && !spare.someoneWaits() && !spare.somethingDries()) {
                return spare.day;
            }
            spare.endDay();
        }
        return NONE;
    }

    public void image() {
        imageTown.copyFrom(town);
        imageBook.copyFrom(book);
        imageTexts = refusedTexts;
        imageGifts = refusedGifts;
        imageKept = true;
    }

    public boolean restore() {
        if (!imageKept) {
            return false;
        }
        town.copyFrom(imageTown);
        book.copyFrom(imageBook);
        refusedTexts = imageTexts;
        refusedGifts = imageGifts;
        return true;
    }

    private void requirePerson(int person) {
        if (person < 0 || person >= town.people) {
            throw new NoSuchElementException();
        }
    }

    private void requireThing(int thing) {
        if (thing < 0 || thing >= town.things) {
            throw new NoSuchElementException();
        }
    }

    private void requireWhat(int what, int most) {
        if (what < 0 || what > most) {
            throw new NoSuchElementException();
        }
    }

    private void requireWeights(int n) {
        if (n < 1 || n > MAX_OWED) {
            throw new IllegalArgumentException();
        }
    }

    /** People, things, and who has and owes what; callers ask only for people and things that there are. */
    private static final class Town {
        private static final int HALF = 6;
        private static final int HALF_SETS = 64;

        int people = 0;
        int things = 0;
        int law = 0;
        int within = 0;
        int day = 0;
        int wet = 0;
        final int[] kind = new int[MAX_PEOPLE];
        final int[] goal = new int[MAX_PEOPLE];
        final int[] sand = new int[MAX_PEOPLE];
        final int[] owed = new int[MAX_PEOPLE];
        final int[] owedTo = new int[MAX_PEOPLE];
        final int[] has = new int[MAX_PEOPLE];
        final int[] weight = new int[MAX_THINGS];
        final int[] worth = new int[MAX_THINGS];
        /* The weights of all sets of the first six things, and of the last six: a set is weighed by two looks. */
        private final int[] lowWeights = new int[HALF_SETS];
        private final int[] highWeights = new int[HALF_SETS];

        void clear() {
            people = 0;
            things = 0;
            law = 0;
            within = 0;
            day = 0;
            wet = 0;
            Arrays.fill(weight, 0);
            weighSets();
        }

        void copyFrom(Town other) {
            people = other.people;
            things = other.things;
            law = other.law;
            within = other.within;
            day = other.day;
            wet = other.wet;
            for (int i = 0; i < MAX_PEOPLE; i++) {
                kind[i] = other.kind[i];
                goal[i] = other.goal[i];
                sand[i] = other.sand[i];
                owed[i] = other.owed[i];
                owedTo[i] = other.owedTo[i];
                has[i] = other.has[i];
            }
            for (int i = 0; i < MAX_THINGS; i++) {
                weight[i] = other.weight[i];
                worth[i] = other.worth[i];
            }
            System.arraycopy(other.lowWeights, 0, lowWeights, 0, HALF_SETS);
            System.arraycopy(other.highWeights, 0, highWeights, 0, HALF_SETS);
        }

        void addPerson(int newKind, int newGoal, int newSand) {
            if (people < MAX_PEOPLE) {
                kind[people] = newKind;
                goal[people] = newGoal;
                sand[people] = newSand;
                owed[people] = 0;
                owedTo[people] = NONE;
                has[people] = 0;
                people++;
            }
        }

        void addThing(int newWeight, int newWorth, int holder, boolean isWet) {
            if (things < MAX_THINGS) {
                weight[things] = newWeight;
                worth[things] = newWorth;
                has[holder] |= 1 << things;
                wet |= isWet ? 1 << things : 0;
                things++;
            }
        }

        /* Must follow each change of the weights. */
        void weighSets() {
            for (int i = 0; i < HALF; i++) {
                int bit = 1 << i;
                for (int set = 0; set < bit; set++) {
                    lowWeights[bit | set] = lowWeights[set] + weight[i];
                    highWeights[bit | set] = highWeights[set] + weight[i + HALF];
                }
            }
        }

        int weightOf(int set) {
            return lowWeights[set & HALF_SETS - 1] + highWeights[set >>> HALF & HALF_SETS - 1];
        }

        int worthOf(int set) {
            int sum = 0;
            for (int thing = 0; thing < things; thing++) {
                sum += (set >>> thing & 1) * worth[thing];
            }
            return sum;
        }

        boolean holds(int person, int thing) {
            return (has[person] >>> thing & 1) == 1;
        }

        int holderOf(int thing) {
            for (int person = 0; person < people; person++) {
                if (holds(person, thing)) {
                    return person;
                }
            }
            return NONE;
        }

        int troubleOf(int giver, int set, int grains, int taker) {
            if (giver < 0 || giver >= people || taker < 0 || taker >= people) {
                return 1;
            }
            if (set >>> things != 0 || grains < 0) {
                return 1;
            }
            if (owed[giver] == 0) {
                return 2;
            }
            if ((set & ~has[giver]) != 0 || grains > sand[giver]) {
                return 3;
            }
            if (taker == giver || owedTo[giver] != NONE && owedTo[giver] != taker) {
                return 4;
            }
            int together = weightOf(set) + grains;
            if (together < lightest(giver)) {
                return 5;
            }
            return together > heaviest(giver) ? 6 : 0;
        }

        private int lightest(int giver) {
            return Math.max(1, owed[giver] - within);
        }

        private int heaviest(int giver) {
            return owed[giver] + within;
        }

        boolean mayAnswer(int giver) {
            return owed[giver] > 0 && people > 1;
        }

        /* The least set above another one (NONE: the least of all) that fits; NONE: no more. */
        int nextFit(int giver, int above) {
            if (!mayAnswer(giver)) {
                return NONE;
            }
            return nextSet(has[giver], above, lightest(giver) - sand[giver], heaviest(giver));
        }

        /* The sets that add to one only what lies below all its things follow it in a row: the whole row is
           left out where the first of it is too heavy already, or the last of it still too light. */
        private int nextSet(int of, int above, int least, int most) {
            int set = above == NONE ? 0 : stepUp(of, above);
            if (set == 0 && above != NONE) {
                return NONE;
            }
            for (int k = 0; k < MAX_SETS; k++) {
                int sum = weightOf(set);
                int below = of & (set & -set) - 1;
                if (sum > most || sum + weightOf(below) < least) {
                    set = stepUp(of, set | below);
                } else if (sum < least) {
                    set = stepUp(of, set);
                } else {
                    return set;
                }
                if (set == 0) {
                    return NONE;
                }
            }
            return NONE;
        }

        /* The next subset as bits; 0 behind the last one. */
        private static int stepUp(int of, int set) {
            return (set | ~of) + 1 & of;
        }

        int sandFor(int giver, int set) {
            return Math.max(0, lightest(giver) - weightOf(set));
        }

        int takerFor(int giver) {
            if (owedTo[giver] != NONE) {
                return owedTo[giver];
            }
            if (kind[giver] == AIM) {
                int holder = holderOf(goal[giver]);
                if (holder != NONE && holder != giver) {
                    return holder;
                }
            }
            return giver + 1 < people ? giver + 1 : 0;
        }

        int chosenSet(int giver) {
            if (!mayAnswer(giver)) {
                return NONE;
            }
            switch (kind[giver]) {
                case LEAST:
                case FEWEST:
                    return cheapestFit(giver);
                case AIM:
                    return leastFitOf(has[giver] & ~(1 << goal[giver]), giver);
                case WAIT:
                    return waits(giver) ? NONE : leastFitOf(has[giver], giver);
                default:
                    return leastFitOf(has[giver], giver);
            }
        }

        private int leastFitOf(int of, int giver) {
            return nextSet(of, NONE, lightest(giver) - sand[giver], heaviest(giver));
        }

        private int cheapestFit(int giver) {
            int least = lightest(giver) - sand[giver];
            int most = heaviest(giver);
            int best = NONE;
            int bestCost = 0;
            int set = nextSet(has[giver], NONE, least, most);
            for (int k = 0; k < MAX_SETS && set != NONE; k++) {
                int cost = kind[giver] == LEAST ? worthOf(set) : Integer.bitCount(set);
                if (best == NONE || cost < bestCost) {
                    best = set;
                    bestCost = cost;
                }
                set = nextSet(has[giver], set, least, most);
            }
            return best;
        }

        private boolean waits(int giver) {
            return kind[giver] == WAIT && day < goal[giver];
        }

        boolean someoneWaits() {
            for (int person = 0; person < people; person++) {
                if (owed[person] > 0 && waits(person)) {
                    return true;
                }
            }
            return false;
        }

        boolean somethingDries() {
            for (int thing = 0; thing < things; thing++) {
                if ((wet >>> thing & 1) == 1 && weight[thing] > 1) {
                    return true;
                }
            }
            return false;
        }

        void endDay() {
            for (int thing = 0; thing < things; thing++) {
                if ((wet >>> thing & 1) == 1 && weight[thing] > 1) {
                    weight[thing]--;
                }
            }
            weighSets();
            day++;
        }

        void hand(int giver, int set, int grains, int taker) {
            has[giver] &= ~set;
            has[taker] |= set;
            sand[giver] -= grains;
            sand[taker] += grains;
        }

        void makeGift(int giver, int set, int grains, int taker) {
            hand(giver, set, grains, taker);
            owed[giver] = 0;
            owedTo[giver] = NONE;
            owed[taker] = weightOf(set) + grains;
            owedTo[taker] = law == 0 ? giver : NONE;
        }

        boolean giveByChoice(int giver) {
            int set = chosenSet(giver);
            if (set == NONE) {
                return false;
            }
            makeGift(giver, set, sandFor(giver, set), takerFor(giver));
            return true;
        }

        /* How far what he owes is off all that he can make; NONE: he can make nothing. */
        int nearestOff(int person) {
            int nearest = NONE;
            int set = 0;
            for (int k = 0; k < MAX_SETS; k++) {
                int bare = weightOf(set);
                int withSand = bare + sand[person];
                if (withSand > 0) {
                    int off = Math.max(0, Math.max(bare - owed[person], owed[person] - withSand));
                    nearest = nearest == NONE ? off : Math.min(nearest, off);
                }
                set = stepUp(has[person], set);
                if (set == 0) {
                    return nearest;
                }
            }
            return nearest;
        }

        boolean cutHelps(int giver, int thing, int part) {
            return fitsWithPart(giver, thing, part) || fitsWithPart(giver, thing, weight[thing] - part);
        }

        /* No set fits without the part (the caller has asked), so it is always among what is given. */
        private boolean fitsWithPart(int giver, int thing, int part) {
            int others = has[giver] & ~(1 << thing);
            int least = lightest(giver) - sand[giver] - part;
            return nextSet(others, NONE, least, heaviest(giver) - part) != NONE;
        }
    }

    /** The gifts that were done, each with what both owed ahead of it. */
    private static final class Book {
        static final int WEIGHT = 4;
        private static final int MAX_GIFTS = 200;
        private static final int WIDTH = 9;

        private int gifts = 0;
        private final int[] rows = new int[MAX_GIFTS * WIDTH];

        int length() {
            return gifts;
        }

        boolean isFull() {
            return gifts >= MAX_GIFTS;
        }

        void clear() {
            gifts = 0;
        }

        int entry(int i, int what) {
            return rows[i * WIDTH + what];
        }

        void copyFrom(Book other) {
            gifts = other.gifts;
            System.arraycopy(other.rows, 0, rows, 0, gifts * WIDTH);
        }

        void write(Town town, int giver, int set, int sand, int taker) {
            int at = gifts * WIDTH;
            rows[at] = giver;
            rows[at + 1] = set;
            rows[at + 2] = sand;
            rows[at + 3] = taker;
            rows[at + WEIGHT] = town.weightOf(set) + sand;
            rows[at + 5] = town.owed[giver];
            rows[at + 6] = town.owedTo[giver];
            rows[at + 7] = town.owed[taker];
            rows[at + 8] = town.owedTo[taker];
            gifts++;
        }

        void takeBackLast(Town town) {
            gifts--;
            int at = gifts * WIDTH;
            int giver = rows[at];
            int taker = rows[at + 3];
            town.hand(taker, rows[at + 1], rows[at + 2], giver);
            town.owed[giver] = rows[at + 5];
            town.owedTo[giver] = rows[at + 6];
            town.owed[taker] = rows[at + 7];
            town.owedTo[taker] = rows[at + 8];
        }
    }

    /** The bytes that were fed; reads them as a town, token by token, up to the end or to the first fault. */
    private static final class Tape {
        private static final int END = 0;
        private static final int WORD = 1;
        private static final int NUMBER = 2;
        private static final int STOP = 3;
        private static final int STRANGE = 4;
        private static final int MAX_DIGITS = 4;

        final Town town = new Town();
        private final byte[] text = new byte[MAX_TAPE];
        private int fed = 0;
        private int length = 0;
        private boolean lawTold = false;
        private boolean withinTold = false;
        private int fault = 0;

        private int token = END;
        private int start = 0;
        private int end = 0;
        private int digits = 0;
        private int value = 0;
        private int taken = 0;

        int length() {
            return fed;
        }

        boolean hasRoomFor(int bytes) {
            return fed + bytes <= MAX_TAPE;
        }

        void putBytes(int number) {
            for (int shift = 24; shift >= 0 && fed < MAX_TAPE; shift -= 8) {
                text[fed] = (byte) (number >>> shift);
                fed++;
            }
        }

        /* The fault, or 0: its town is whole then. The tape is empty behind it. */
        int readTown(int textLength) {
            length = Math.min(textLength, fed);
            fed = 0;
            town.clear();
            lawTold = false;
            withinTold = false;
            fault = 0;
            end = 0;
            step();
            for (int line = 0; line < MAX_TAPE && token != END; line++) {
                if (!readLine()) {
                    return fault;
                }
            }
            town.weighSets();
            return 0;
        }

        /* Where the token is that was refused. */
        int place() {
            return start;
        }

        private boolean readLine() {
            if (isWord("person")) {
                return readPerson() && takeStop();
            }
            if (isWord("thing")) {
                return readThing() && takeStop();
            }
            if (isWord("owes")) {
                return readOwes() && takeStop();
            }
            if (isWord("law")) {
                return readLaw() && takeStop();
            }
            if (isWord("within")) {
                return readWithin() && takeStop();
            }
            return refuse(1);
        }

        private boolean readPerson() {
            if (town.people >= MAX_PEOPLE) {
                return refuse(2);
            }
            step();
            int sand = 0;
            if (skipWord("sand")) {
                if (!takeNumber(0, 99)) {
                    return false;
                }
                sand = taken;
            }
            int kind = kindTold();
            if (kind == NONE) {
                return refuse(1);
            }
            step();
            int goal = 0;
            if (kind == AIM || kind == WAIT) {
                if (!takeNumber(0, kind == AIM ? MAX_THINGS - 1 : 99)) {
                    return false;
                }
                goal = taken;
            }
            town.addPerson(kind, goal, sand);
            return true;
        }

        private int kindTold() {
            if (isWord("plain")) {
                return 0;
            }
            if (isWord("least")) {
                return LEAST;
            }
            if (isWord("fewest")) {
                return FEWEST;
            }
            if (isWord("aim")) {
                return AIM;
            }
            return isWord("wait") ? WAIT : NONE;
        }

        private boolean readThing() {
            if (town.things >= MAX_THINGS) {
                return refuse(2);
            }
            step();
            if (!takeNumber(1, 99)) {
                return false;
            }
            int weight = taken;
            if (!takeNumber(0, 999)) {
                return false;
            }
            int worth = taken;
            if (!takePerson(NONE)) {
                return false;
            }
            int holder = taken;
            town.addThing(weight, worth, holder, skipWord("wet"));
            return true;
        }

        private boolean readOwes() {
            step();
            if (token == NUMBER && personTold() && town.owed[value] != 0) {
                return refuse(4);
            }
            if (!takePerson(NONE)) {
                return false;
            }
            int debtor = taken;
            if (!takeNumber(1, MAX_OWED)) {
                return false;
            }
            town.owed[debtor] = taken;
            if (skipWord("to")) {
                if (!takePerson(debtor)) {
                    return false;
                }
                town.owedTo[debtor] = taken;
            }
            return true;
        }

        private boolean readLaw() {
            if (lawTold) {
                return refuse(5);
            }
            lawTold = true;
            step();
            if (skipWord("giver")) {
                return true;
            }
            if (skipWord("anyone")) {
                town.law = 1;
                return true;
            }
            return refuse(1);
        }

        private boolean readWithin() {
            if (withinTold) {
                return refuse(5);
            }
            withinTold = true;
            step();
            if (!takeNumber(0, 9)) {
                return false;
            }
            town.within = taken;
            return true;
        }

        private boolean takeNumber(int least, int most) {
            if (token != NUMBER) {
                return refuse(1);
            }
            if (digits > MAX_DIGITS || value < least || value > most) {
                return refuse(2);
            }
            taken = value;
            step();
            return true;
        }

        private boolean takePerson(int notThis) {
            if (token != NUMBER) {
                return refuse(1);
            }
            if (digits > MAX_DIGITS) {
                return refuse(2);
            }
            if (!personTold()) {
                return refuse(3);
            }
            if (value == notThis) {
                return refuse(4);
            }
            taken = value;
            step();
            return true;
        }

        private boolean personTold() {
            return digits <= MAX_DIGITS && value < town.people;
        }

        private boolean takeStop() {
            if (token != STOP) {
                return refuse(1);
            }
            step();
            return true;
        }

        private boolean refuse(int number) {
            fault = number;
            return false;
        }

        private boolean skipWord(String word) {
            boolean there = isWord(word);
            if (there) {
                step();
            }
            return there;
        }

        private boolean isWord(String word) {
            if (token != WORD || end - start != word.length()) {
                return false;
            }
            for (int i = 0; i < word.length(); i++) {
                if (text[start + i] != word.charAt(i)) {
                    return false;
                }
            }
            return true;
        }

        private void step() {
            int at = end;
            while (at < length && (text[at] == ' ' || text[at] == '\n')) {
                at++;
            }
            start = at;
            if (at >= length) {
                token = END;
                end = at;
            } else if (isLetter(at)) {
                stepWord(at);
            } else if (isDigit(at)) {
                stepNumber(at);
            } else {
                token = text[at] == ';' ? STOP : STRANGE;
                end = at + 1;
            }
        }

        private void stepWord(int from) {
            int at = from;
            while (at < length && isLetter(at)) {
                at++;
            }
            token = WORD;
            end = at;
        }

        private void stepNumber(int from) {
            int at = from;
            value = 0;
            while (at < length && isDigit(at)) {
                if (at - from < MAX_DIGITS) {
                    value = value * 10 + text[at] - '0';
                }
                at++;
            }
            token = NUMBER;
            digits = at - from;
            end = at;
        }

        private boolean isLetter(int at) {
            return text[at] >= 'a' && text[at] <= 'z';
        }

        private boolean isDigit(int at) {
            return text[at] >= '0' && text[at] <= '9';
        }
    }

    /** Tries the orders in which all who owe at its start can answer, each what he owed then. */
    private static final class Week {
        private static final int MAX_TRIES = 20000;

        private final Town town = new Town();
        private final int[] row = new int[MAX_PEOPLE];
        private int owing = 0;
        private int tries = 0;
        private int most = 0;

        boolean tryAll(Town start) {
            town.copyFrom(start);
            owing = 0;
            tries = 0;
            most = 0;
            int left = 0;
            for (int person = 0; person < town.people; person++) {
                if (town.owed[person] > 0) {
                    left |= 1 << person;
                    owing++;
                }
            }
            return tryRest(left, 0);
        }

        int length() {
            return owing;
        }

        int personAt(int i) {
            return row[i];
        }

        int most() {
            return most;
        }

        int tries() {
            return tries;
        }

        boolean isSpent() {
            return tries > MAX_TRIES;
        }

        private boolean tryRest(int left, int depth) {
            most = Math.max(most, depth);
            if (left == 0) {
                return true;
            }
            if (depth >= MAX_PEOPLE) {
                return false;
            }
            for (int person = 0; person < town.people && !isSpent(); person++) {
                if ((left >>> person & 1) == 1 && tryTurn(person, left, depth)) {
                    return true;
                }
            }
            return false;
        }

        /* Only hands things and sand over: what is given in the week is owed behind it. */
        private boolean tryTurn(int giver, int left, int depth) {
            row[depth] = giver;
            int taker = town.takerFor(giver);
            int set = town.nextFit(giver, NONE);
            for (int k = 0; k < MAX_SETS && set != NONE; k++) {
                tries++;
                if (isSpent()) {
                    return false;
                }
                int sand = town.sandFor(giver, set);
                town.hand(giver, set, sand, taker);
                if (tryRest(left & ~(1 << giver), depth + 1)) {
                    return true;
                }
                town.hand(taker, set, sand, giver);
                if (isSpent()) {
                    return false;
                }
                set = town.nextFit(giver, set);
            }
            return false;
        }
    }

    /** Looks through all states that gifts can come to, the nearest first, till one has the thing. */
    private static final class Getting {
        private static final int MAX_STATES = 1000;
        private static final int SLOTS = 2048;

        private final long[] states = new long[MAX_STATES * MAX_PEOPLE];
        /* The number of a state and 1, at the place that its sum tells or behind it; 0: empty. */
        private final short[] slots = new short[SLOTS];
        private final long[] packed = new long[MAX_PEOPLE];
        private final Town town = new Town();
        private int found = 0;
        private boolean spent = false;

        int fewestGifts(Town start, int seeker, int thing) {
            town.copyFrom(start);
            Arrays.fill(slots, (short) 0);
            found = 0;
            spent = false;
            noteState();
            int gifts = 0;
            int fewest = NONE;
            int levelEnd = found;
            for (int state = 0; state < MAX_STATES && state < found && !spent; state++) {
                if (state == levelEnd) {
                    gifts++;
                    levelEnd = found;
                }
                load(state);
                if (!town.holds(seeker, thing)) {
                    spread(state, seeker);
                } else if (fewest == NONE) {
                    fewest = gifts;
                }
            }
            return spent ? SPENT : fewest;
        }

        private void spread(int state, int seeker) {
            for (int giver = 0; giver < town.people && !spent; giver++) {
                if (giver == seeker) {
                    spreadBySets(state, giver);
                } else if (town.giveByChoice(giver)) {
                    noteState();
                    load(state);
                }
            }
        }

        private void spreadBySets(int state, int giver) {
            int set = town.nextFit(giver, NONE);
            for (int k = 0; k < MAX_SETS && set != NONE && !spent; k++) {
                spreadSet(state, giver, set);
                set = town.nextFit(giver, set);
            }
        }

        private void spreadSet(int state, int giver, int set) {
            int sand = town.sandFor(giver, set);
            int owedTo = town.owedTo[giver];
            for (int taker = 0; taker < town.people && !spent; taker++) {
                if (taker != giver && (owedTo == NONE || owedTo == taker)) {
                    town.makeGift(giver, set, sand, taker);
                    noteState();
                    load(state);
                }
            }
        }

        private void noteState() {
            pack();
            int slot = sumOfPacked();
            for (int k = 0; k < SLOTS && slots[slot] != 0; k++) {
                if (isPacked(slots[slot] - 1)) {
                    return;
                }
                slot = slot + 1 & SLOTS - 1;
            }
            if (found >= MAX_STATES) {
                spent = true;
                return;
            }
            System.arraycopy(packed, 0, states, found * MAX_PEOPLE, MAX_PEOPLE);
            found++;
            slots[slot] = (short) found;
        }

        private void pack() {
            for (int person = 0; person < town.people; person++) {
                long owing = (long) (town.owedTo[person] + 1) << 12 | town.owed[person];
                packed[person] = owing << 24 | (long) town.sand[person] << 12 | town.has[person];
            }
            for (int person = town.people; person < MAX_PEOPLE; person++) {
                packed[person] = 0;
            }
        }

        private void load(int state) {
            for (int person = 0; person < town.people; person++) {
                long all = states[state * MAX_PEOPLE + person];
                town.has[person] = (int) all & 4095;
                town.sand[person] = (int) (all >>> 12) & 4095;
                town.owed[person] = (int) (all >>> 24) & 4095;
                town.owedTo[person] = (int) (all >>> 36) - 1;
            }
        }

        private boolean isPacked(int state) {
            for (int person = 0; person < MAX_PEOPLE; person++) {
                if (states[state * MAX_PEOPLE + person] != packed[person]) {
                    return false;
                }
            }
            return true;
        }

        private int sumOfPacked() {
            long sum = 0;
            for (int person = 0; person < MAX_PEOPLE; person++) {
                sum = (sum ^ packed[person]) * 0x9E3779B97F4A7C15L;
                sum ^= sum >>> 29;
            }
            return (int) (sum >>> 40) & SLOTS - 1;
        }
    }
}
