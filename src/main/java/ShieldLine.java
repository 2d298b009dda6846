/** A town in which each does for another one what that one should do for himself. */
public final class ShieldLine {
    public static final int BAD = -1, NOT = -2, FULL = -3, STATE = -5, VOID = -2000000000;

    private static final int MISSING = -11, UNLIKE = -12, OUTSIDE = -13, BELOW = -14;
    private static final int MOST_PEOPLE = 8, MOST_PLACE = 35, MOST_STORE = 99, MOST_DAY = 99;
    private static final int MOST_DAYS = 40, MOST_GIVES = 9, NOBODY_BIT = 256, NOTHING_DONE = 8;
    private static final int LED_DAYS = 0, LED_CAME = 1, LED_CARES = 2, LED_GIVEN = 3, LED_LACK = 4;
    private static final int STORE = 3, CARES = 4, WIND = 5, DAY = 6;

    private final Town town = new Town();
    private final Town thought = new Town();
    private final Reader reader = new Reader();
    private final Rings rings = new Rings();
    private final Matching matching = new Matching();
    private final Turns turns = new Turns();
    private final Changes changes = new Changes();
    private final Shields shields = new Shields();
    private final Shelves shelves = new Shelves();
    private final int[] ledger = new int[5];
    private final Town pictured = new Town();
    private final int[] picturedLedger = new int[5];
    private boolean hasPicture = false;
    private Law rule = new Law();
    private Law draft = new Law();

    public ShieldLine() {
    }

    // ---- people

    public int person(int place) {
        if (!within(place, 0, MOST_PLACE)) {
            return BAD;
        }
        if (town.many >= MOST_PEOPLE) {
            return FULL;
        }
        rings.forget();
        return town.settle(place, 4, 3);
    }

    public int people(int shelf, int i, int n) {
        if (!Shelves.isShelf(shelf) || !within(n, 1, MOST_PEOPLE)) {
            return BAD;
        }
        if (shelves.isEmpty(shelf)) {
            return 0;
        }
        if (!shelves.isBytes(shelf)) {
            return UNLIKE;
        }
        int came = 0;
        int size = shelves.size(shelf);
        // The place is held below the size ahead of each three, so 3 * came can't wrap it.
        while (came < n && i >= 0 && i < size && i + 3 * came + 2 < size && settledFromRow(shelf, i + 3 * came)) {
            came++;
        }
        return came;
    }

    public int mend(int number, int what, int v) {
        if (!town.hasNumber(number, what) || !town.mayBecome(number, what, v)) {
            return VOID;
        }
        int was = town.number(number, what);
        if (was != v) {
            changes.add(number, what, was, v);
            becomes(number, what, v);
        }
        return was;
    }

    public int of(int number, int what) {
        return town.hasNumber(number, what) ? town.number(number, what) : VOID;
    }

    public int feed(int letter) {
        if (!within(letter, 0, 255)) {
            return BAD;
        }
        return reader.takes(letter) ? reader.length : FULL;
    }

    public int law() {
        int fault = reader.read(draft);
        if (fault >= 0) {
            return -100 - fault;
        }
        Law old = rule;
        rule = draft;
        draft = old;
        rings.forget();
        return 1;
    }

    public int comes(int one) {
        if (!town.hasPerson(one)) {
            return BAD;
        }
        town.countCarers();
        return town.comesFrom(one, rule);
    }

    // ---- days in thought

    public int later(int n, int one) {
        if (!within(n, 0, MOST_DAYS) || one != -1 && !town.hasPerson(one)) {
            return BAD;
        }
        think(n);
        return one == -1 ? thought.storeOfAll() : thought.storeOf(one);
    }

    public int lacking(int n) {
        if (!within(n, 0, MOST_DAYS)) {
            return BAD;
        }
        think(n);
        return thought.lackBits();
    }

    public int first(int one) {
        if (one != -1 && !town.hasPerson(one)) {
            return BAD;
        }
        int asked = one == -1 ? 255 : 1 << one;
        think(0);
        for (int days = 0; days <= MOST_DAYS; days++) {
            int lack = thought.lackBits() & asked;
            if (lack != 0) {
                return one == -1 ? lowestBit(lack) : days;
            }
            thought.passDay(rule);
        }
        return NOT;
    }

    public int care(int one, int what) {
        if (!town.hasPerson(one) || !within(what, 0, 1)) {
            return BAD;
        }
        return what == 0 ? town.endFrom(one) : town.ringOf(one);
    }

    public int cared(int what) {
        if (!within(what, 0, 1)) {
            return BAD;
        }
        town.countCarers();
        return what == 0 ? town.caredBits(0, 0) : town.caredBits(2, MOST_PEOPLE);
    }

    public int round(int n, int one) {
        if (!within(n, 0, Rings.MOST_RING_DAYS) || one != -1 && one != -2 && !town.hasPerson(one)) {
            return BAD;
        }
        if (town.many < 2) {
            return NOT;
        }
        rings.find(town, rule, n);
        if (one == -1) {
            return rings.fewest;
        }
        return one == -2 ? rings.most : rings.best[one];
    }

    public int mended(int one) {
        if (one != -1 && !town.hasPerson(one)) {
            return BAD;
        }
        if (town.many == 1) {
            return NOT;
        }
        matching.find(town);
        return one == -1 ? matching.fewest : matching.best[one];
    }

    public int gone(int n, int one) {
        if (!within(n, 0, 12) || one != -1 && !town.hasPerson(one)) {
            return BAD;
        }
        if (one != -1) {
            return lackWithout(one, n);
        }
        int most = -1;
        int worst = NOT;
        for (int i = 0; i < town.many; i++) {
            int lack = lackWithout(i, n);
            if (lack > most) {
                most = lack;
                worst = i;
            }
        }
        return worst;
    }

    // ---- stores told, the can, pay

    public int judge(int shelf, int one) {
        if (!Shelves.isShelf(shelf) || !town.hasPerson(one)) {
            return BAD;
        }
        int refusal = shelves.bytesRefusal(shelf);
        if (refusal != 0) {
            return refusal;
        }
        thought.become(town);
        return firstWrong(shelf, one);
    }

    public int fits(int shelf, int ab, int what) {
        if (!Shelves.isShelf(shelf) || ab < 0 || !within(what, 0, 2)) {
            return BAD;
        }
        int one = ab / 10;
        int told = ab % 10;
        if (!town.hasPerson(one) || !town.hasPerson(told)) {
            return BAD;
        }
        int refusal = shelves.bytesRefusal(shelf);
        if (refusal != 0) {
            return refusal;
        }
        if (what == 2) {
            return fittingCares(shelf, one, told);
        }
        int gifts = fittingGifts(shelf, one, told);
        if (what == 0) {
            return Integer.bitCount(gifts);
        }
        return lowestBit(gifts);
    }

    public long can(int shelf, int part) {
        if (!Shelves.isShelf(shelf) || !within(part, 0, 1) || !shelves.isBytes(shelf)) {
            return Long.MIN_VALUE;
        }
        // Nine of twelve against three: each night weighs 3 to 1 for the one side or the other.
        int ahead = nightsAhead(shelf);
        long weight = powerOfThree(Math.abs(ahead));
        if (part == 1) {
            return weight + 1;
        }
        return ahead > 0 ? weight : 1;
    }

    public int paid(int one, int v) {
        if (!town.hasPerson(one) || !within(v, 0, 9999)) {
            return BAD;
        }
        town.countCarers();
        if (!town.caresAlone(one)) {
            return 0;
        }
        int together = 0;
        for (int i = 0; i < town.many; i++) {
            if (town.caresAlone(i)) {
                together += town.gives[i];
            }
        }
        return together <= 0 ? 0 : v * town.gives[one] / together;
    }

    public int byTurns(int nt, int what) {
        if (!within(nt, 10, 36) || nt % 10 > 6 || !within(what, 0, 1)) {
            return BAD;
        }
        turns.begin(town, nt / 10, nt % 10);
        int lack = turns.fewest(rule, nt / 10, -1);
        return what == 0 ? lack : turns.firstDeed;
    }

    public int drawn(int seed, int nm, int one) {
        if (!within(nm, 101, 3040) || !within(nm % 100, 1, 40) || one != -1 && !town.hasPerson(one)) {
            return BAD;
        }
        int z = seed;
        int sum = 0;
        for (int winter = 0; winter < nm / 100; winter++) {
            thought.become(town);
            for (int days = 0; days < nm % 100; days++) {
                z = z * 1103515245 + 12345;
                thought.loseByDraw(z);
                thought.passDay(rule);
            }
            sum += one == -1 ? Integer.bitCount(thought.lackBits()) : thought.storeOf(one);
        }
        return sum;
    }

    // ---- in deed

    public int day() {
        rings.forget();
        int before = town.lackBits();
        town.passDay(rule);
        int lack = town.lackBits();
        ledger[LED_DAYS]++;
        ledger[LED_CAME] += town.came;
        ledger[LED_LACK] += Integer.bitCount(lack & ~before);
        return Integer.bitCount(lack);
    }

    public int cares(int one, int whom) {
        if (!town.hasPerson(one) || !town.mayBecome(one, CARES, whom)) {
            return VOID;
        }
        int was = town.number(one, CARES);
        becomes(one, CARES, whom);
        ledger[LED_CARES]++;
        return was;
    }

    public int gives(int one, int whom, int v) {
        if (!town.hasPerson(one) || !town.hasPerson(whom) || one == whom || !within(v, 1, MOST_STORE)) {
            return BAD;
        }
        if (town.storeOf(one) < v) {
            return STATE;
        }
        becomes(one, STORE, town.storeOf(one) - v);
        becomes(whom, STORE, held(town.storeOf(whom) + v, MOST_STORE));
        ledger[LED_GIVEN] += v;
        return town.storeOf(one);
    }

    public int led(int what) {
        return within(what, 0, 4) ? ledger[what] : BAD;
    }

    public int image() {
        pictured.become(town);
        System.arraycopy(ledger, 0, picturedLedger, 0, ledger.length);
        hasPicture = true;
        return ledger[LED_DAYS];
    }

    public int back() {
        if (!hasPicture) {
            return STATE;
        }
        for (int i = 0; i < pictured.many; i++) {
            becomes(i, STORE, pictured.number(i, STORE));
            becomes(i, CARES, pictured.number(i, CARES));
        }
        becomes(0, DAY, pictured.number(0, DAY));
        System.arraycopy(picturedLedger, 0, ledger, 0, ledger.length);
        return ledger[LED_DAYS];
    }

    public int undo() {
        if (changes.done <= 0) {
            return STATE;
        }
        int at = changes.stepBack();
        becomes(changes.number[at], changes.what[at], changes.was[at]);
        return changes.done;
    }

    public int redo() {
        if (changes.done >= changes.kept) {
            return STATE;
        }
        int at = changes.stepOn();
        becomes(changes.number[at], changes.what[at], changes.became[at]);
        return changes.kept - changes.done;
    }

    // ---- acts, shelves

    public int body(int kind) {
        if (!Shields.isKind(kind)) {
            return BAD;
        }
        return shields.many < Shields.MOST_BODIES ? shields.add(kind) : FULL;
    }

    public int act(int body, int act, int x) {
        return shields.perform(body, act, x);
    }

    public int trace(int i) {
        return i >= 0 && i < shields.kept() ? shields.steps[i] : BAD;
    }

    public int keep(int shelf, int body) {
        if (!Shelves.isShelf(shelf) || body != -1 && !shields.has(body)) {
            return BAD;
        }
        if (body == -1) {
            shelves.clear(shelf);
        } else {
            shelves.holdShield(shelf, body);
        }
        return 1;
    }

    public int row(int shelf, int sort, int n) {
        if (!Shelves.isShelf(shelf) || !within(sort, 0, 4) || n > Shelves.MOST_ELEMENTS) {
            return BAD;
        }
        if (n < 0) {
            return BELOW;
        }
        shelves.holdRow(shelf, sort, n);
        return 1;
    }

    public int put(int shelf, int i, long v) {
        int refusal = elementRefusal(shelf, i);
        if (refusal != 0) {
            return refusal;
        }
        shelves.set(shelf, i, v);
        return 1;
    }

    public long element(int shelf, int i) {
        return elementRefusal(shelf, i) == 0 ? shelves.get(shelf, i) : Long.MIN_VALUE;
    }

    public int shift(int shelf, int i, int other, int j, int n) {
        if (!Shelves.isShelf(shelf) || !Shelves.isShelf(other)) {
            return BAD;
        }
        if (shelves.isEmpty(shelf) || shelves.isEmpty(other)) {
            return MISSING;
        }
        if (!shelves.areLikeRows(shelf, other)) {
            return UNLIKE;
        }
        if (!shelves.hasSpan(shelf, i, n) || !shelves.hasSpan(other, j, n)) {
            return OUTSIDE;
        }
        shelves.move(shelf, i, other, j, n);
        return n;
    }

    public int taken(int shelf, int k) {
        if (!Shelves.isShelf(shelf) || !Shields.isKind(k)) {
            return BAD;
        }
        if (shelves.isEmpty(shelf)) {
            return MISSING;
        }
        if (!shelves.isShield(shelf)) {
            return UNLIKE;
        }
        int kind = shields.kindOf(shelves.size(shelf));
        return Shields.isUnder(kind, k) ? kind : UNLIKE;
    }

    public int count(int what) {
        switch (what) {
            case 0: return town.many;
            case 1: return Integer.bitCount(town.lackBits());
            case 2: return reader.length;
            case 3: return changes.done;
            case 4: return shields.many;
            case 5: return shields.ran;
            default: return BAD;
        }
    }

    // ---- helpers

    private static boolean within(int v, int least, int most) {
        return v >= least && v <= most;
    }

    /** What v is, held within 0 .. most. */
    private static int held(int v, int most) {
        if (v < 0) {
            return 0;
        }
        return v > most ? most : v;
    }

    private static int lowestBit(int bits) {
        for (int i = 0; i < 10; i++) {
            if ((bits >> i & 1) == 1) {
                return i;
            }
        }
        return NOT;
    }

    /** Every number of the town but the people's coming and the passing of days goes through here. */
    private void becomes(int number, int what, int v) {
        rings.forget();
        town.setNumber(number, what, v);
    }

    private boolean settledFromRow(int shelf, int at) {
        if (town.many >= MOST_PEOPLE) {
            return false;
        }
        int place = (int) shelves.get(shelf, at);
        int gift = (int) shelves.get(shelf, at + 1);
        int need = (int) shelves.get(shelf, at + 2);
        if (!within(place, 0, MOST_PLACE) || !within(gift, 0, MOST_GIVES) || !within(need, 0, 9)) {
            return false;
        }
        rings.forget();
        town.settle(place, gift, need);
        return true;
    }

    private void think(int days) {
        thought.become(town);
        thought.passDays(rule, days);
    }

    private int lackWithout(int one, int days) {
        thought.become(town);
        thought.leaveOut(one);
        thought.passDays(rule, days);
        return Integer.bitCount(thought.lackBits() & ~(1 << one));
    }

    /** The first place at which the row of stores is not so, from what is thought on. */
    private int firstWrong(int shelf, int one) {
        int size = Math.min(shelves.size(shelf), MOST_DAYS + 1);
        for (int i = 0; i < size; i++) {
            if (shelves.get(shelf, i) != thought.storeOf(one)) {
                return i;
            }
            thought.passDay(rule);
        }
        return NOT;
    }

    private int fittingGifts(int shelf, int one, int told) {
        int bits = 0;
        for (int gift = 0; gift <= MOST_GIVES; gift++) {
            thought.become(town);
            thought.setNumber(told, 1, gift);
            if (firstWrong(shelf, one) == NOT) {
                bits |= 1 << gift;
            }
        }
        return bits;
    }

    private int fittingCares(int shelf, int one, int told) {
        int bits = 0;
        for (int whom = -1; whom < town.many; whom++) {
            if (whom == told) {
                continue;
            }
            thought.become(town);
            thought.setNumber(told, CARES, whom);
            if (firstWrong(shelf, one) == NOT) {
                bits |= whom == -1 ? NOBODY_BIT : 1 << whom;
            }
        }
        return bits;
    }

    /** By how many nights it was gone more often than it stood. */
    private int nightsAhead(int shelf) {
        int size = Math.min(shelves.size(shelf), 30);
        int ahead = 0;
        for (int i = 0; i < size; i++) {
            long night = shelves.get(shelf, i);
            if (night != 0 && night != 1) {
                break;
            }
            ahead += night == 1 ? 1 : -1;
        }
        return ahead;
    }

    private static long powerOfThree(int n) {
        long power = 1;
        for (int i = 0; i < n; i++) {
            power *= 3;
        }
        return power;
    }

    /** Why element i of a shelf can't be had; 0: it can. */
    private int elementRefusal(int shelf, int i) {
        if (!Shelves.isShelf(shelf)) {
            return BAD;
        }
        if (shelves.isEmpty(shelf)) {
            return MISSING;
        }
        if (shelves.isShield(shelf)) {
            return UNLIKE;
        }
        return i >= 0 && i < shelves.size(shelf) ? 0 : OUTSIDE;
    }

    /** The common with its people, in deed or in thought. */
    private static final class Town {
        private int many = 0;
        private final int[] places = new int[MOST_PEOPLE];
        private final int[] gives = new int[MOST_PEOPLE];
        private final int[] needs = new int[MOST_PEOPLE];
        private final int[] stores = new int[MOST_PEOPLE];
        private final int[] whom = new int[MOST_PEOPLE];
        private int wind = 2;
        private int today = 0;
        private final int[] carers = new int[MOST_PEOPLE];
        private final int[] coming = new int[MOST_PEOPLE];
        private int came = 0;

        private int settle(int place, int gift, int need) {
            if (many >= MOST_PEOPLE) {
                return FULL;
            }
            places[many] = place;
            gives[many] = gift;
            needs[many] = need;
            stores[many] = 20;
            whom[many] = -1;
            many++;
            return many - 1;
        }

        private void become(Town other) {
            many = other.many;
            System.arraycopy(other.places, 0, places, 0, MOST_PEOPLE);
            System.arraycopy(other.gives, 0, gives, 0, MOST_PEOPLE);
            System.arraycopy(other.needs, 0, needs, 0, MOST_PEOPLE);
            System.arraycopy(other.stores, 0, stores, 0, MOST_PEOPLE);
            System.arraycopy(other.whom, 0, whom, 0, MOST_PEOPLE);
            wind = other.wind;
            today = other.today;
        }

        private boolean hasPerson(int one) {
            return one >= 0 && one < many;
        }

        private boolean hasNumber(int number, int what) {
            if (what == WIND || what == DAY) {
                return number == 0;
            }
            return what >= 0 && what <= CARES && hasPerson(number);
        }

        private boolean mayBecome(int number, int what, int v) {
            switch (what) {
                case 0: return within(v, 0, MOST_PLACE);
                case 1: return within(v, 0, MOST_GIVES);
                case 2: return within(v, 0, 9);
                case STORE: return within(v, 0, MOST_STORE);
                case CARES: return v == -1 || hasPerson(v) && v != number;
                case WIND: return within(v, 0, 9);
                case DAY: return within(v, 0, MOST_DAY);
                default: return false;
            }
        }

        private int number(int number, int what) {
            if (!hasNumber(number, what)) {
                return VOID;
            }
            switch (what) {
                case 0: return places[number];
                case 1: return gives[number];
                case 2: return needs[number];
                case STORE: return stores[number];
                case CARES: return whom[number];
                case WIND: return wind;
                default: return today;
            }
        }

        private void setNumber(int number, int what, int v) {
            if (!hasNumber(number, what) || !mayBecome(number, what, v)) {
                return;
            }
            switch (what) {
                case 0: places[number] = v; break;
                case 1: gives[number] = v; break;
                case 2: needs[number] = v; break;
                case STORE: stores[number] = v; break;
                case CARES: whom[number] = v; break;
                case WIND: wind = v; break;
                default: today = v; break;
            }
        }

        private int storeOf(int one) {
            return hasPerson(one) ? stores[one] : 0;
        }

        private int storeOfAll() {
            int sum = 0;
            for (int i = 0; i < many; i++) {
                sum += stores[i];
            }
            return sum;
        }

        private int lackBits() {
            int bits = 0;
            for (int i = 0; i < many; i++) {
                if (stores[i] == 0) {
                    bits |= 1 << i;
                }
            }
            return bits;
        }

        private void countCarers() {
            for (int i = 0; i < many; i++) {
                carers[i] = 0;
            }
            for (int i = 0; i < many; i++) {
                if (hasPerson(whom[i])) {
                    carers[whom[i]]++;
                }
            }
        }

        /** For whom at least so many and at most so many care; the carers are counted ahead. */
        private int caredBits(int least, int most) {
            int bits = 0;
            for (int i = 0; i < many; i++) {
                if (within(carers[i], least, most)) {
                    bits |= 1 << i;
                }
            }
            return bits;
        }

        private boolean caresAlone(int one) {
            return hasPerson(whom[one]) && carers[whom[one]] == 1;
        }

        private int far(int one, int other) {
            int a = places[one];
            int b = places[other];
            return Math.abs(a % 6 - b % 6) + Math.abs(a / 6 - b / 6);
        }

        /** What comes from one; the carers are counted ahead. */
        private int comesFrom(int one, Law law) {
            int to = whom[one];
            if (!hasPerson(to) || stores[one] == 0) {
                return 0;
            }
            return law.gift(gives[one], far(one, to), needs[to], carers[to], stores[one], today);
        }

        private void passDay(Law law) {
            countCarers();
            came = 0;
            for (int i = 0; i < many; i++) {
                coming[i] = 0;
            }
            for (int i = 0; i < many; i++) {
                if (hasPerson(whom[i])) {
                    int gift = comesFrom(i, law);
                    coming[whom[i]] += gift;
                    came += gift;
                }
            }
            for (int i = 0; i < many; i++) {
                int lost = carers[i] == 0 ? needs[i] + wind : needs[i];
                stores[i] = held(stores[i] + coming[i] - lost, MOST_STORE);
            }
            today = Math.min(today + 1, MOST_DAY);
        }

        private void passDays(Law law, int days) {
            for (int i = 0; i < days; i++) {
                passDay(law);
            }
        }

        private int endFrom(int one) {
            int at = one;
            for (int step = 0; step <= many; step++) {
                if (!hasPerson(whom[at])) {
                    return at;
                }
                at = whom[at];
            }
            return NOT;
        }

        private int ringOf(int one) {
            int at = one;
            for (int step = 1; step <= many; step++) {
                at = whom[at];
                if (at == one) {
                    return step;
                }
                if (!hasPerson(at)) {
                    return NOT;
                }
            }
            return NOT;
        }

        /** He cares for nobody then, and nobody for him: so nothing of his reaches the others. */
        private void leaveOut(int one) {
            for (int i = 0; i < many; i++) {
                if (i == one || whom[i] == one) {
                    whom[i] = -1;
                }
            }
        }

        private void loseByDraw(int z) {
            if (many > 0) {
                int one = (z >>> 8) % many;
                stores[one] = Math.max(stores[one] - (z >>> 16) % 10, 0);
            }
        }

        private int nextToCareFor(int one) {
            if (many < 2) {
                return -1;
            }
            int next = (whom[one] + 1) % many;
            return next == one ? (next + 1) % many : next;
        }
    }

    /** The law as steps on a stack; without steps it is the one that holds without a text. */
    private static final class Law {
        private static final int NUMBER = 0, NAME = 1, ANSWER = 2, TEST = 3, NEGATE = 4, OPPOSITE = 5;
        // A byte makes one step at most, ; none, and each line's end one: so 121. Six open hold 36 values.
        private static final int MOST_STEPS = 128, MOST_VALUES = 48;

        private final int[] steps = new int[MOST_STEPS];
        private final int[] with = new int[MOST_STEPS];
        private int size = 0;
        private final int[] stack = new int[MOST_VALUES];
        private final int[] names = new int[6];

        private int add(int step, int v) {
            if (size < MOST_STEPS) {
                steps[size] = step;
                with[size] = v;
                size++;
            }
            return size - 1;
        }

        /** A test that fails goes on behind the answer of its line. */
        private void aim(int test, int answer) {
            if (test >= 0 && test < size) {
                with[test] = answer;
            }
        }

        private int gift(int g, int d, int n, int k, int s, int t) {
            if (size == 0) {
                return held(g - d / 2, 20);
            }
            names[0] = g;
            names[1] = d;
            names[2] = n;
            names[3] = k;
            names[4] = s;
            names[5] = t;
            return held(work(), 20);
        }

        private int work() {
            int top = -1;
            for (int at = 0; at < size; at++) {
                int step = steps[at];
                if (step <= NAME) {
                    top++;
                    if (top >= MOST_VALUES) {
                        return 0;
                    }
                    stack[top] = step == NUMBER ? with[at] : named(with[at]);
                } else if (top < 0) {
                    return 0;
                } else if (step == ANSWER) {
                    return stack[top];
                } else if (step == TEST) {
                    at = stack[top] == 0 ? Math.max(at, with[at]) : at;
                    top--;
                } else if (step == NEGATE) {
                    stack[top] = -stack[top];
                } else if (step == OPPOSITE) {
                    stack[top] = stack[top] == 0 ? 1 : 0;
                } else if (top < 1) {
                    return 0;
                } else {
                    top--;
                    stack[top] = joined(step, stack[top], stack[top + 1]);
                }
            }
            return 0;
        }

        private int named(int name) {
            return name >= 0 && name < names.length ? names[name] : 0;
        }

        private static int joined(int sign, int a, int b) {
            switch (sign) {
                case '|': return a != 0 || b != 0 ? 1 : 0;
                case '&': return a != 0 && b != 0 ? 1 : 0;
                case '<': return a < b ? 1 : 0;
                case '=': return a == b ? 1 : 0;
                case '>': return a > b ? 1 : 0;
                case '+': return a + b;
                case '-': return a - b;
                case '*': return a * b;
                case '/': return b == 0 ? 0 : a / b;
                case '%': return b == 0 ? 0 : a % b;
                default: return 0;
            }
        }
    }

    /** The tape, and its reading; where reading stops short, the place reached is the fault. */
    private static final class Reader {
        private static final int MOST_BYTES = 120, MOST_OPEN = 6, OPERAND_LEVEL = 5;

        private final int[] tape = new int[MOST_BYTES];
        private int length = 0;
        private int at = 0;

        private boolean takes(int letter) {
            if (length >= MOST_BYTES) {
                return false;
            }
            tape[length] = letter;
            length++;
            return true;
        }

        /** The tape goes into a law and is empty then: its fault; -1: none. */
        private int read(Law into) {
            into.size = 0;
            at = 0;
            boolean good = text(into);
            length = 0;
            return good ? -1 : at;
        }

        private boolean text(Law into) {
            for (int line = 0; line <= MOST_BYTES; line++) {
                if (!line(into)) {
                    return false;
                }
                if (at >= length) {
                    return true;
                }
                if (tape[at] != ';') {
                    return false;
                }
                at++;
            }
            return false;
        }

        private boolean line(Law into) {
            if (!joint(into, 0, 0)) {
                return false;
            }
            if (!isNext('?')) {
                into.add(Law.ANSWER, 0);
                return true;
            }
            at++;
            int test = into.add(Law.TEST, 0);
            if (!joint(into, 0, 0)) {
                return false;
            }
            into.aim(test, into.add(Law.ANSWER, 0));
            return true;
        }

        private boolean isNext(int letter) {
            return at < length && tape[at] == letter;
        }

        /** E, A, B, S, P by their levels 0 to 4, and O below them; open bounds the depth. */
        private boolean joint(Law into, int level, int open) {
            if (level >= OPERAND_LEVEL) {
                return operand(into, open);
            }
            if (!joint(into, level + 1, open)) {
                return false;
            }
            // A comparison stands between two S alone; the others go on as long as the tape.
            int most = level == 2 ? 1 : MOST_BYTES;
            for (int i = 0; i < most && at < length && levelOf(tape[at]) == level; i++) {
                int sign = tape[at];
                at++;
                if (!joint(into, level + 1, open)) {
                    return false;
                }
                into.add(sign, 0);
            }
            return true;
        }

        private static int levelOf(int sign) {
            switch (sign) {
                case '|': return 0;
                case '&': return 1;
                case '<': case '=': case '>': return 2;
                case '+': case '-': return 3;
                case '*': case '/': case '%': return 4;
                default: return -1;
            }
        }

        private boolean operand(Law into, int open) {
            if (at >= length) {
                return false;
            }
            int letter = tape[at];
            if (letter == '(' || letter == '!' || letter == '-') {
                return open < MOST_OPEN && opened(into, letter, open + 1);
            }
            if (isDigit(letter)) {
                into.add(Law.NUMBER, digits());
                return true;
            }
            int name = nameOf(letter);
            if (name < 0) {
                return false;
            }
            into.add(Law.NAME, name);
            at++;
            return true;
        }

        private boolean opened(Law into, int letter, int open) {
            at++;
            if (letter == '(') {
                if (!joint(into, 0, open) || !isNext(')')) {
                    return false;
                }
                at++;
                return true;
            }
            if (!operand(into, open)) {
                return false;
            }
            into.add(letter == '-' ? Law.NEGATE : Law.OPPOSITE, 0);
            return true;
        }

        private static boolean isDigit(int letter) {
            return letter >= '0' && letter <= '9';
        }

        private int digits() {
            int v = 0;
            for (int i = 0; i < 4 && at < length && isDigit(tape[at]); i++) {
                v = 10 * v + tape[at] - '0';
                at++;
            }
            return v;
        }

        private static int nameOf(int letter) {
            switch (letter) {
                case 'g': return 0;
                case 'd': return 1;
                case 'n': return 2;
                case 'k': return 3;
                case 's': return 4;
                case 't': return 5;
                default: return -1;
            }
        }
    }

    /** All rings of all people, in order of what 0, 1, 2 .. care for. */
    private static final class Rings {
        private static final int MOST_RING_DAYS = 6, STORES = MOST_STORE + 1;
        private static final int SLOTS = MOST_RING_DAYS * MOST_PEOPLE * MOST_PEOPLE * STORES;

        private final int[] best = new int[MOST_PEOPLE];
        private int fewest = 0;
        private int most = 0;
        private int heldDays = -1;
        private final int[] whom = new int[MOST_PEOPLE];
        private int[] stores = new int[MOST_PEOPLE];
        private int[] next = new int[MOST_PEOPLE];
        // Gifts worked out already, by day, giver, receiver and store: thousands of rings share them.
        // The row is long and comes only when it is wanted first; the stamp tells this search's own.
        private int[] gifts = new int[0];
        private int stamp = 0;
        private int days = 0;

        /** What was found no longer holds. */
        private void forget() {
            heldDays = -1;
        }

        private void find(Town town, Law law, int behind) {
            if (heldDays == behind) {
                return;
            }
            if (gifts.length == 0) {
                gifts = new int[SLOTS];
            }
            days = behind;
            stamp++;
            fewest = MOST_PEOPLE + 1;
            most = -1;
            choose(town, law, 0, 0);
            heldDays = behind;
        }

        private void choose(Town town, Law law, int who, int used) {
            if (who >= town.many) {
                weigh(town, law);
                return;
            }
            for (int to = 0; to < town.many; to++) {
                if (to != who && (used >> to & 1) == 0 && !closesEarly(town.many, who, to)) {
                    whom[who] = to;
                    choose(town, law, who + 1, used | 1 << to);
                }
            }
        }

        private boolean closesEarly(int many, int who, int to) {
            if (who == many - 1) {
                return false;
            }
            int at = to;
            for (int step = 0; step < MOST_PEOPLE && at < who; step++) {
                at = whom[at];
            }
            return at == who;
        }

        private void weigh(Town town, Law law) {
            System.arraycopy(town.stores, 0, stores, 0, MOST_PEOPLE);
            for (int past = 0; past < days; past++) {
                // In a ring each is cared for by just one, so the wind takes nothing.
                for (int i = 0; i < town.many; i++) {
                    int to = whom[i];
                    int gift = stores[i] == 0 ? 0 : giftOf(town, law, past, i, to);
                    next[to] = held(stores[to] + gift - town.needs[to], MOST_STORE);
                }
                int[] old = stores;
                stores = next;
                next = old;
            }
            compare(town.many);
        }

        private void compare(int many) {
            int lack = 0;
            int sum = 0;
            for (int i = 0; i < many; i++) {
                sum += stores[i];
                lack += stores[i] == 0 ? 1 : 0;
            }
            if (lack < fewest || lack == fewest && sum > most) {
                fewest = lack;
                most = sum;
                System.arraycopy(whom, 0, best, 0, MOST_PEOPLE);
            }
        }

        private int giftOf(Town town, Law law, int past, int one, int to) {
            int store = stores[one];
            int slot = ((past * MOST_PEOPLE + one) * MOST_PEOPLE + to) * STORES + store;
            if (slot < 0 || slot >= gifts.length) {
                return 0;
            }
            if (gifts[slot] >> 5 != stamp) {
                int today = Math.min(town.today + past, MOST_DAY);
                int gift = law.gift(town.gives[one], town.far(one, to), town.needs[to], 1, store, today);
                gifts[slot] = stamp << 5 | gift;
            }
            return gifts[slot] & 31;
        }
    }

    /** All ways in which each cares for one and is cared for by one, in order of what 0, 1, 2 .. care for. */
    private static final class Matching {
        private final int[] best = new int[MOST_PEOPLE];
        private int fewest = 0;
        private final int[] whom = new int[MOST_PEOPLE];

        private void find(Town town) {
            fewest = MOST_PEOPLE + 1;
            choose(town, 0, 0, 0);
        }

        private void choose(Town town, int who, int used, int others) {
            if (others >= fewest) {
                return;
            }
            if (who >= town.many) {
                fewest = others;
                System.arraycopy(whom, 0, best, 0, MOST_PEOPLE);
                return;
            }
            for (int to = 0; to < town.many; to++) {
                if (to != who && (used >> to & 1) == 0) {
                    whom[who] = to;
                    choose(town, who + 1, used | 1 << to, town.whom[who] == to ? others : others + 1);
                }
            }
        }
    }

    /** Mathematician and wind by turns, both at their best. */
    private static final class Turns {
        private final Town now = new Town();
        private final Town end = new Town();
        private int deeds = 0;
        private int days = 0;
        private int firstDeed = NOTHING_DONE;

        private void begin(Town town, int n, int t) {
            now.become(town);
            deeds = n;
            days = t;
            firstDeed = NOTHING_DONE;
        }

        private int lackAtEnd(Law law) {
            end.become(now);
            for (int i = 0; i < days; i++) {
                end.passDay(law);
            }
            return Integer.bitCount(end.lackBits());
        }

        /** His best with so many deeds left; what is not above the bound the wind won't let come. */
        private int fewest(Law law, int left, int bound) {
            if (left <= 0) {
                return lackAtEnd(law);
            }
            int best = most(law, left - 1, MOST_PEOPLE + 1);
            for (int i = 0; i < now.many && best > bound; i++) {
                int was = now.whom[i];
                now.whom[i] = now.nextToCareFor(i);
                int lack = most(law, left - 1, best);
                now.whom[i] = was;
                if (lack < best) {
                    best = lack;
                    firstDeed = left == deeds ? i : firstDeed;
                }
            }
            return best;
        }

        /** The wind's best; what is not below the bound the mathematician won't let come. */
        private int most(Law law, int left, int bound) {
            if (left <= 0) {
                return lackAtEnd(law);
            }
            int best = fewest(law, left - 1, -1);
            for (int i = 0; i < now.many && best < bound; i++) {
                int was = now.stores[i];
                now.stores[i] = Math.max(was - 5, 0);
                best = Math.max(best, fewest(law, left - 1, best));
                now.stores[i] = was;
            }
            return best;
        }
    }

    /** The latest changes: those done, then those undone that may be done again. */
    private static final class Changes {
        private static final int MOST_KEPT = 40;

        private final int[] number = new int[MOST_KEPT];
        private final int[] what = new int[MOST_KEPT];
        private final int[] was = new int[MOST_KEPT];
        private final int[] became = new int[MOST_KEPT];
        private int done = 0;
        private int kept = 0;

        private void add(int whose, int which, int old, int v) {
            if (done >= MOST_KEPT) {
                dropOldest();
            }
            number[done] = whose;
            what[done] = which;
            was[done] = old;
            became[done] = v;
            done++;
            kept = done;
        }

        private void dropOldest() {
            System.arraycopy(number, 1, number, 0, MOST_KEPT - 1);
            System.arraycopy(what, 1, what, 0, MOST_KEPT - 1);
            System.arraycopy(was, 1, was, 0, MOST_KEPT - 1);
            System.arraycopy(became, 1, became, 0, MOST_KEPT - 1);
            done = MOST_KEPT - 1;
        }

        /** Where the change is that is now to be undone; there is one. */
        private int stepBack() {
            done = Math.max(done - 1, 0);
            return done;
        }

        /** Where the change is that is now to be done again; there is one. */
        private int stepOn() {
            done = Math.min(done + 1, MOST_KEPT);
            return done - 1;
        }
    }

    /** Bodies of shields, and the bodies of acts that they run. */
    private static final class Shields {
        private static final int MOST_BODIES = 50, MOST_STEPS = 24, MOST_DEPTH = 40;
        private static final int BEARS = 0, CARING = 1, LACKS = 2, TELLS = 3;
        private static final int ROOF = 1, LAMP = 2, POST = 3, WIDOW = 4, CAN = 5, KILN = 6, HILL = 7;
        private static final int[] ABOVE = {-1, 0, 0, 2, 1, 3, 0, 4};
        // By kind: bears, cares, lacks, tells; 0: it has none of its own.
        private static final int[] BODIES = {
            1, 10, 11, 2,
            20, 0, 0, 0,
            0, 30, 0, 0,
            0, 41, 40, 0,
            0, 0, 50, 0,
            0, 0, 0, 60,
            70, 0, 0, 0,
            0, 80, 0, 81};

        private final int[] kinds = new int[MOST_BODIES];
        private int many = 0;
        private final int[] steps = new int[MOST_STEPS];
        private int ran = 0;
        private int actor = 0;

        private static boolean isKind(int kind) {
            return kind >= 0 && kind < ABOVE.length;
        }

        private static boolean isUnder(int kind, int above) {
            int at = kind;
            for (int step = 0; step < ABOVE.length && isKind(at); step++) {
                if (at == above) {
                    return true;
                }
                at = ABOVE[at];
            }
            return false;
        }

        private boolean has(int body) {
            return body >= 0 && body < many;
        }

        private int add(int kind) {
            if (many >= MOST_BODIES) {
                return FULL;
            }
            kinds[many] = kind;
            many++;
            return many - 1;
        }

        private int kindOf(int body) {
            return has(body) ? kinds[body] : -1;
        }

        private int kept() {
            return Math.min(ran, MOST_STEPS);
        }

        private int perform(int body, int act, int x) {
            ran = 0;
            if (!has(body) || !within(act, BEARS, TELLS)) {
                return 0;
            }
            actor = body;
            return own(act, x, 0);
        }

        private int own(int act, int x, int depth) {
            return run(sought(kindOf(actor), act), x, depth + 1);
        }

        private int above(int kind, int act, int x, int depth) {
            return run(sought(ABOVE[kind], act), x, depth + 1);
        }

        private static int sought(int from, int act) {
            int at = from;
            for (int step = 0; step < ABOVE.length && isKind(at); step++) {
                if (BODIES[4 * at + act] != 0) {
                    return BODIES[4 * at + act];
                }
                at = ABOVE[at];
            }
            return 0;
        }

        private int run(int number, int x, int depth) {
            if (depth > MOST_DEPTH) {
                return 0;
            }
            if (ran < MOST_STEPS) {
                steps[ran] = number;
            }
            ran++;
            switch (number) {
                case 1: return x + actor;
                case 2: return own(CARING, x, depth) - own(LACKS, 1, depth);
                case 10: return own(BEARS, x, depth) * 2;
                case 11: return x ^ actor;
                case 20: return above(ROOF, BEARS, x, depth) + 3;
                case 30: return -above(LAMP, CARING, x, depth);
                case 40: return above(POST, LACKS, x, depth) * 3;
                case 41: return above(POST, CARING, x + 1, depth);
                case 50: return above(WIDOW, LACKS, x, depth) - own(BEARS, 2, depth);
                case 60: return above(CAN, TELLS, x, depth) ^ 5;
                case 70: return above(KILN, BEARS, x, depth) * 2;
                case 80: return above(HILL, CARING, x, depth) + own(LACKS, 2, depth);
                case 81: return above(HILL, TELLS, x, depth) - 1;
                default: return 0;
            }
        }
    }

    /** What the shelves hold: nothing, a shield by its number, or a row. */
    private static final class Shelves {
        private static final int MANY = 6, MOST_ELEMENTS = 60;
        private static final int BYTES = 0, SHORTS = 1, INTS = 2, LONGS = 3, SHIELD = 5, NOTHING = 6;

        private final int[] holds = {NOTHING, NOTHING, NOTHING, NOTHING, NOTHING, NOTHING};
        private final int[] sizes = new int[MANY];
        private final long[] elements = new long[MANY * MOST_ELEMENTS];

        private static boolean isShelf(int shelf) {
            return shelf >= 0 && shelf < MANY;
        }

        private boolean isEmpty(int shelf) {
            return holds[shelf] == NOTHING;
        }

        private boolean isShield(int shelf) {
            return holds[shelf] == SHIELD;
        }

        private boolean isBytes(int shelf) {
            return holds[shelf] == BYTES;
        }

        private boolean areLikeRows(int shelf, int other) {
            return holds[shelf] < SHIELD && holds[shelf] == holds[other];
        }

        /** Why a shelf has no row of bytes; 0: it has one. */
        private int bytesRefusal(int shelf) {
            if (isEmpty(shelf)) {
                return MISSING;
            }
            return isBytes(shelf) ? 0 : UNLIKE;
        }

        /** How many elements its row has; of a shield, its number. */
        private int size(int shelf) {
            return sizes[shelf];
        }

        private void clear(int shelf) {
            holds[shelf] = NOTHING;
            sizes[shelf] = 0;
        }

        private void holdShield(int shelf, int body) {
            holds[shelf] = SHIELD;
            sizes[shelf] = body;
        }

        private void holdRow(int shelf, int sort, int n) {
            holds[shelf] = sort;
            sizes[shelf] = n;
            for (int i = 0; i < MOST_ELEMENTS; i++) {
                elements[shelf * MOST_ELEMENTS + i] = 0;
            }
        }

        private long get(int shelf, int i) {
            return elements[shelf * MOST_ELEMENTS + i];
        }

        private void set(int shelf, int i, long v) {
            elements[shelf * MOST_ELEMENTS + i] = lowest(holds[shelf], v);
        }

        private static long lowest(int sort, long v) {
            switch (sort) {
                case BYTES: return (byte) v;
                case SHORTS: return (short) v;
                case INTS: return (int) v;
                case LONGS: return v;
                default: return v != 0 ? 1 : 0;
            }
        }

        private boolean hasSpan(int shelf, int i, int n) {
            return i >= 0 && n >= 0 && n <= sizes[shelf] && i <= sizes[shelf] - n;
        }

        private void move(int shelf, int i, int other, int j, int n) {
            System.arraycopy(elements, shelf * MOST_ELEMENTS + i, elements, other * MOST_ELEMENTS + j, n);
        }
    }
}
