/** Yesterday's word for it: a town's rumours, the coins struck with them each dawn, and what they are worth. */
public final class DawnCoin {
    public static final int UNKNOWN = -1, OUTSIDE = -2, STATE = -3, FULL = -4, NONE = -9;

    private static final int LETTERS = 48, LAST_LETTER = 255;
    private static final int RUMOURS = 5, ALL_SETS = 32, PEOPLE = 4, TABLES = 6, ALL_TABLES = 63;
    private static final int THINGS = RUMOURS * TABLES, CHOICES = RUMOURS + 1, PAIRS = CHOICES * CHOICES;
    private static final int MOST_COINS = 99, ACTS = 14, MOST_HEARD = 6, SLOTS = 2;
    private static final int FAR_DAY = 8, MOST_JUDGED = 4, MOST_WORTH = 20, TENTHS = 10, MOST_WEEKS = 20;
    private static final int SAYS = 0, DENIES = 1, DAWNS = 2, HIGHEST_BIT = 30;
    private static final long FACTOR = 6364136223846793005L, STEP = 1442695040888963407L;

    private final Reader reader;
    private final Town told;
    private final Town draft;
    private final Standing now;
    private final Standing trial;
    private final ActRow acts;
    private final Hearsay hearsay;
    private final Standing[] slots;
    private final boolean[] filled;
    private final Best best;
    private final int[] gains;
    private final int[] things;
    private final int[] mine;
    private final int[] theirs;
    private long chain;

    public DawnCoin() {
        reader = new Reader();
        told = new Town();
        draft = new Town();
        now = new Standing();
        trial = new Standing();
        acts = new ActRow();
        hearsay = new Hearsay();
        slots = new Standing[SLOTS];
        for (int i = 0; i < SLOTS; i++) {
            slots[i] = new Standing();
        }
        filled = new boolean[SLOTS];
        best = new Best();
        gains = new int[THINGS];
        things = new int[MOST_JUDGED];
        mine = new int[PAIRS];
        theirs = new int[PAIRS];
    }

    // ---- the town

    public int write(int letter) {
        if (isOutside(letter, 0, LAST_LETTER)) {
            return OUTSIDE;
        }
        return reader.append(letter);
    }

    public int wipe() {
        int was = reader.length;
        reader.length = 0;
        return was;
    }

    public int fault() {
        return reader.readInto(draft);
    }

    public int town() {
        // The draft takes the fault, so that a text that is no town leaves the town as it is.
        if (reader.readInto(draft) != NONE) {
            return STATE;
        }
        reader.readInto(told);
        now.open(told);
        acts.held = 0;
        for (int i = 0; i < filled.length; i++) {
            filled[i] = false;
        }
        return 10 * told.rumours + told.people;
    }

    public int rumour(int rumour, int what) {
        if (!told.hasRumour(rumour)) {
            return UNKNOWN;
        }
        switch (what) {
            case 0: return told.word[rumour];
            case 1: return told.isLie(rumour) ? 1 : 0;
            case 2: return told.proof[rumour];
            case 3: return now.saidOf(rumour);
            case 4: return now.deniedOf(rumour);
            case 5: return told.rivals[rumour];
            case 6: return told.isProved(rumour, now.day) ? 1 : 0;
            default: return OUTSIDE;
        }
    }

    public int table(int person) {
        return told.hasPerson(person) ? told.seat[person] : UNKNOWN;
    }

    public int coins(int person, int rumour) {
        if (!told.hasPerson(person) || !told.hasRumour(rumour)) {
            return UNKNOWN;
        }
        return now.coinsOf(person, rumour);
    }

    // ---- acts

    public int dawn() {
        acts.remember(now);
        return now.passDawn(told);
    }

    public int say(int rumour, int table) {
        if (!told.hasRumour(rumour)) {
            return UNKNOWN;
        }
        if (!isTable(table)) {
            return OUTSIDE;
        }
        if (!now.canBeSaid(told, rumour, table)) {
            return STATE;
        }
        acts.remember(now);
        now.putSaid(rumour, table);
        return Integer.bitCount(now.saidOf(rumour));
    }

    public int deny(int rumour, int table) {
        if (!told.hasRumour(rumour)) {
            return UNKNOWN;
        }
        if (!isTable(table)) {
            return OUTSIDE;
        }
        if (!now.canBeDenied(told, rumour, table)) {
            return STATE;
        }
        acts.remember(now);
        now.putDenied(rumour, table);
        return Integer.bitCount(now.saidOf(rumour));
    }

    public int pay(int person, int other, int rumour) {
        if (!told.hasPerson(person) || !told.hasPerson(other) || !told.hasRumour(rumour)) {
            return UNKNOWN;
        }
        if (person == other) {
            return OUTSIDE;
        }
        if (now.coinsOf(person, rumour) < 1 || !now.isTakenBy(told, other, rumour)) {
            return STATE;
        }
        acts.remember(now);
        now.addCoins(person, rumour, -1);
        now.addCoins(other, rumour, 1);
        return now.valueOf(told, rumour);
    }

    public int undo() {
        return acts.takeBack(now) ? acts.held : STATE;
    }

    // ---- worth

    public int worth(int rumour, int n) {
        if (!told.hasRumour(rumour)) {
            return UNKNOWN;
        }
        if (isOutside(n, 0, FAR_DAY)) {
            return OUTSIDE;
        }
        return valueIn(rumour, now.saidOf(rumour), n);
    }

    public int purse(int person, int n) {
        if (!told.hasPerson(person)) {
            return UNKNOWN;
        }
        if (isOutside(n, 0, FAR_DAY)) {
            return OUTSIDE;
        }
        return purseIn(person, n);
    }

    public int bestDay(int person) {
        if (!told.hasPerson(person)) {
            return UNKNOWN;
        }
        best.start(purseIn(person, 0), 0);
        for (int n = 1; n <= FAR_DAY; n++) {
            best.offer(purseIn(person, n), n);
        }
        return best.which;
    }

    public int reach(int rumour, int table) {
        if (!told.hasRumour(rumour)) {
            return UNKNOWN;
        }
        if (!isTable(table)) {
            return OUTSIDE;
        }
        for (int n = 0; n <= FAR_DAY; n++) {
            if (hasBit(saidIn(rumour, now.saidOf(rumour), n), table)) {
                return n;
            }
        }
        return NONE;
    }

    public int plan(int person, int n, boolean row) {
        if (!told.hasPerson(person)) {
            return UNKNOWN;
        }
        if (isOutside(n, 0, FAR_DAY)) {
            return OUTSIDE;
        }
        for (int i = 0; i < gains.length; i++) {
            gains[i] = canSayThing(i) ? gainOf(person, i / TABLES, thingBit(i), n) : 0;
        }
        best.start(0, 1);
        offerOneThing();
        offerTwoThings(person, n);
        return row ? best.which : purseIn(person, n) + best.most;
    }

    public int holds(int person, boolean which) {
        if (!told.hasPerson(person)) {
            return UNKNOWN;
        }
        int most = 0;
        int held = 0;
        for (int set = 1; set < ALL_SETS && set < 1 << told.rumours; set++) {
            int value = now.valueOfSet(told, person, set);
            boolean fewer = Integer.bitCount(set) < Integer.bitCount(held);
            if (told.isFreeOfRivals(set) && (value > most || (value == most && fewer))) {
                most = value;
                held = set;
            }
        }
        return which ? held : most;
    }

    public int judge(int n, long row) {
        if (isOutside(n, 1, MOST_JUDGED) || row < 0) {
            return OUTSIDE;
        }
        long left = row;
        for (int i = n - 1; i >= 0 && i < things.length; i--) {
            things[i] = (int) (left % 1000);
            left /= 1000;
        }
        if (left != 0) {
            return OUTSIDE;
        }
        trial.copyFrom(now);
        for (int i = 0; i < n && i < things.length; i++) {
            int ahead = trial.valueOfAll(told);
            if (!tryThing(things[i]) || trial.valueOfAll(told) < ahead) {
                return i;
            }
        }
        return NONE;
    }

    // ---- heard

    public int hear(int rumour, int table, int n, boolean said) {
        if (!told.hasRumour(rumour)) {
            return UNKNOWN;
        }
        if (!isTable(table) || isOutside(n, 0, FAR_DAY)) {
            return OUTSIDE;
        }
        return hearsay.append(rumour, table, n, said);
    }

    public int unhear() {
        int was = hearsay.held;
        hearsay.held = 0;
        return was;
    }

    public int where(int rumour, int what) {
        if (!told.hasRumour(rumour)) {
            return UNKNOWN;
        }
        if (isOutside(what, 0, 2)) {
            return OUTSIDE;
        }
        int sets = 0;
        int inAll = ALL_TABLES;
        int inSome = 0;
        for (int set = 0; set <= ALL_TABLES; set++) {
            if ((set & now.deniedOf(rumour)) == 0 && agreesWithHeard(rumour, set)) {
                sets++;
                inAll &= set;
                inSome |= set;
            }
        }
        if (what == 0) {
            return sets;
        }
        if (sets == 0) {
            return NONE;
        }
        return what == 1 ? inAll : ALL_TABLES & ~inSome;
    }

    // ---- shares, rests, chances

    public int share(int table, int rumour, int n, boolean upper) {
        if (!told.hasRumour(rumour)) {
            return UNKNOWN;
        }
        if (!isTable(table) || isOutside(n, 0, FAR_DAY)) {
            return OUTSIDE;
        }
        int said = now.saidOf(rumour);
        if (!hasBit(said, table)) {
            return fraction(0, 1, upper);
        }
        int others = said & ~(1 << table);
        int count = Integer.bitCount(others);
        int above = 0;
        for (int set = 0; set <= ALL_TABLES; set++) {
            if ((set & ~others) == 0) {
                int came = Integer.bitCount(set);
                int more = valueIn(rumour, set | 1 << table, n) - valueIn(rumour, set, n);
                above += factorial(came) * factorial(count - came) * more;
            }
        }
        return fraction(above, factorial(count + 1), upper);
    }

    public int rests(int person, int other, int n, int what) {
        if (!told.hasPerson(person) || !told.hasPerson(other)) {
            return UNKNOWN;
        }
        if (person == other || isOutside(n, 0, FAR_DAY) || isOutside(what, 0, 1)) {
            return OUTSIDE;
        }
        weighChoices(person, other, n);
        int found = 0;
        int first = NONE;
        for (int a = 0; a < CHOICES; a++) {
            for (int b = 0; b < CHOICES; b++) {
                if (canChoose(person, a) && canChoose(other, b) && isAtRest(person, a, other, b)) {
                    first = found == 0 ? 10 * a + b : first;
                    found++;
                }
            }
        }
        return what == 0 ? found : first;
    }

    public int chance(int rumour, int w, int x, boolean upper) {
        if (!told.hasRumour(rumour)) {
            return UNKNOWN;
        }
        if (isOutside(w, 0, MOST_WORTH) || isOutside(x, 0, TENTHS)) {
            return OUTSIDE;
        }
        int deniers = told.isProvedTrue(rumour, now.day) ? 0 : now.saidOf(rumour);
        int count = Integer.bitCount(deniers);
        int above = 0;
        for (int set = 0; set <= ALL_TABLES; set++) {
            if ((set & ~deniers) == 0 && valueAfterDenials(rumour, set) >= w) {
                int denials = Integer.bitCount(set);
                above += power(x, denials) * power(TENTHS - x, count - denials);
            }
        }
        return fraction(above, power(TENTHS, count), upper);
    }

    public long seed(long v) {
        long was = chain;
        chain = v;
        return was;
    }

    public int weeks(int m) {
        if (isOutside(m, 1, MOST_WEEKS)) {
            return OUTSIDE;
        }
        trial.copyFrom(now);
        for (int i = 0; i < m; i++) {
            chain = chain * FACTOR + STEP;
            int left = (int) (chain >>> 33) % 60;
            trySaying(left / 10, left % 10);
            trial.passDawn(told);
        }
        return trial.valueOfPurses(told);
    }

    // ---- slots

    public int keep(int slot) {
        Standing kept = slotAt(slot);
        if (kept == null) {
            return UNKNOWN;
        }
        kept.copyFrom(now);
        filled[slot] = true;
        return now.day;
    }

    public int again(int slot) {
        Standing kept = slotAt(slot);
        if (kept == null) {
            return UNKNOWN;
        }
        if (!filled[slot]) {
            return STATE;
        }
        now.copyFrom(kept);
        acts.held = 0;
        return now.day;
    }

    public int count(int what) {
        switch (what) {
            case 0: return reader.length;
            case 1: return told.rumours;
            case 2: return told.people;
            case 3: return now.day;
            case 4: return now.allCoins();
            case 5: return now.valueOfPurses(told);
            case 6: return now.rumoursSaid();
            case 7: return acts.held;
            case 8: return hearsay.held;
            default: return OUTSIDE;
        }
    }

    // ---- what comes of a rumour: none changes what becomes of another, so each is followed by itself

    private int saidIn(int rumour, int said, int n) {
        int left = said;
        for (int i = 0; i < n && i < FAR_DAY; i++) {
            left = told.saidAfterDawn(rumour, left, now.deniedOf(rumour), now.day + i);
        }
        return left;
    }

    private int valueIn(int rumour, int said, int n) {
        return told.valueOn(now.day + n, rumour, saidIn(rumour, said, n), now.deniedOf(rumour));
    }

    private int coinValueIn(int person, int rumour, int said, int n) {
        int denied = now.deniedOf(rumour);
        int seat = told.seatOf(person);
        int coins = now.coinsOf(person, rumour);
        int left = said;
        for (int i = 0; i < n && i < FAR_DAY; i++) {
            if (hasBit(left, seat) && coins < MOST_COINS) {
                coins++;
            }
            left = told.saidAfterDawn(rumour, left, denied, now.day + i);
        }
        return coins * told.valueOn(now.day + n, rumour, left, denied);
    }

    private int purseIn(int person, int n) {
        int sum = 0;
        for (int r = 0; r < told.rumours; r++) {
            sum += coinValueIn(person, r, now.saidOf(r), n);
        }
        return sum;
    }

    private int valueAfterDenials(int rumour, int tables) {
        int said = now.saidOf(rumour) & ~tables;
        int denied = now.deniedOf(rumour) | tables;
        return told.valueOn(now.day + 1, rumour, told.saidAfterDawn(rumour, said, denied, now.day), denied);
    }

    // ---- plans: a thing is a rumour and a table as one number, so that the least row comes first

    private boolean canSayThing(int thing) {
        return now.canBeSaid(told, thing / TABLES, thing % TABLES);
    }

    private static int thingBit(int thing) {
        return 1 << thing % TABLES;
    }

    private static int thingFigures(int thing) {
        return 10 * (thing / TABLES) + thing % TABLES;
    }

    private int gainOf(int person, int rumour, int tables, int n) {
        int said = now.saidOf(rumour);
        return coinValueIn(person, rumour, said | tables, n) - coinValueIn(person, rumour, said, n);
    }

    private void offerOneThing() {
        for (int one = 0; one < THINGS; one++) {
            if (canSayThing(one)) {
                best.offer(at(gains, one), 100 + thingFigures(one));
            }
        }
    }

    private void offerTwoThings(int person, int n) {
        for (int one = 0; one < THINGS; one++) {
            // Two things do the same in either order, and the other order is the greater number.
            for (int two = one + 1; two < THINGS && canSayThing(one); two++) {
                if (canSayThing(two)) {
                    int gain = one / TABLES == two / TABLES
                        ? gainOf(person, one / TABLES, thingBit(one) | thingBit(two), n)
                        : at(gains, one) + at(gains, two);
                    best.offer(gain, 10000 + 100 * thingFigures(one) + thingFigures(two));
                }
            }
        }
    }

    // ---- trials: they run on a copy, so that nothing is changed

    private boolean trySaying(int rumour, int table) {
        if (!trial.canBeSaid(told, rumour, table)) {
            return false;
        }
        trial.putSaid(rumour, table);
        return true;
    }

    private boolean tryDenying(int rumour, int table) {
        if (!trial.canBeDenied(told, rumour, table)) {
            return false;
        }
        trial.putDenied(rumour, table);
        return true;
    }

    private boolean tryThing(int figures) {
        int rumour = figures / 10 % 10;
        int table = figures % 10;
        switch (figures / 100) {
            case SAYS: return trySaying(rumour, table);
            case DENIES: return tryDenying(rumour, table);
            case DAWNS:
                trial.passDawn(told);
                return true;
            default: return false;
        }
    }

    private boolean agreesWithHeard(int rumour, int tables) {
        for (int i = 0; i < hearsay.held && i < MOST_HEARD; i++) {
            if (hearsay.rumour[i] == rumour) {
                boolean said = hasBit(saidIn(rumour, tables, hearsay.days[i]), hearsay.place[i]);
                if (said != hearsay.said[i]) {
                    return false;
                }
            }
        }
        return true;
    }

    // ---- two that talk: choice 0 is to say nothing, else the rumour and 1

    private boolean canChoose(int person, int choice) {
        return choice == 0 || now.canBeSaid(told, choice - 1, told.seatOf(person));
    }

    private static int pairOf(int a, int b) {
        return CHOICES * a + b;
    }

    private void weighChoices(int person, int other, int n) {
        for (int pair = 0; pair < PAIRS; pair++) {
            mine[pair] = 0;
            theirs[pair] = 0;
            for (int r = 0; r < told.rumours; r++) {
                // The later one of two that say the same at one table adds nothing, as a bit set twice.
                int said = now.saidOf(r);
                said |= pair / CHOICES == r + 1 ? 1 << told.seatOf(person) : 0;
                said |= pair % CHOICES == r + 1 ? 1 << told.seatOf(other) : 0;
                mine[pair] += coinValueIn(person, r, said, n);
                theirs[pair] += coinValueIn(other, r, said, n);
            }
        }
    }

    private boolean isAtRest(int person, int a, int other, int b) {
        for (int c = 0; c < CHOICES; c++) {
            if (canChoose(person, c) && at(mine, pairOf(c, b)) > at(mine, pairOf(a, b))) {
                return false;
            }
            if (canChoose(other, c) && at(theirs, pairOf(a, c)) > at(theirs, pairOf(a, b))) {
                return false;
            }
        }
        return true;
    }

    private Standing slotAt(int slot) {
        return isIndex(slot, slots.length) && isIndex(slot, filled.length) ? slots[slot] : null;
    }

    // ---- numbers

    private static boolean isOutside(int number, int least, int most) {
        return number < least || number > most;
    }

    private static boolean isTable(int table) {
        return table >= 0 && table < TABLES;
    }

    private static boolean isIndex(int index, int length) {
        return index >= 0 && index < length;
    }

    private static int at(int[] row, int index) {
        return index >= 0 && index < row.length ? row[index] : 0;
    }

    private static boolean hasBit(int bits, int place) {
        return place >= 0 && place <= HIGHEST_BIT && (bits >> place & 1) != 0;
    }

    private static int power(int base, int exponent) {
        int product = 1;
        for (int i = 0; i < exponent && i < TABLES; i++) {
            product *= base;
        }
        return product;
    }

    private static int factorial(int number) {
        int product = 1;
        for (int i = 2; i <= number && i <= TABLES; i++) {
            product *= i;
        }
        return product;
    }

    private static int fraction(int above, int below, boolean upper) {
        int divisor = commonDivisor(Math.abs(above), below);
        if (divisor < 1) {
            return upper ? above : below;
        }
        return upper ? above / divisor : below / divisor;
    }

    private static int commonDivisor(int one, int two) {
        int large = one;
        int small = two;
        // Each two steps halve the number at least.
        for (int i = 0; i < 64 && small != 0; i++) {
            int left = large % small;
            large = small;
            small = left;
        }
        return large;
    }

    /** The most of what was offered; of like ones the first. */
    private static final class Best {
        int most;
        int which;

        void start(int value, int what) {
            most = value;
            which = what;
        }

        void offer(int value, int what) {
            if (value > most) {
                start(value, what);
            }
        }
    }

    /** What a text tells, and the rules that need nothing but that. */
    private static final class Town {
        final int[] word = new int[RUMOURS];
        final boolean[] lie = new boolean[RUMOURS];
        final int[] proof = new int[RUMOURS];
        final int[] rivals = new int[RUMOURS];
        final int[] opening = new int[RUMOURS];
        final int[] seat = new int[PEOPLE];
        int rumours;
        int people;

        void clear() {
            rumours = 0;
            people = 0;
        }

        boolean hasRumour(int rumour) {
            return rumour >= 0 && rumour < rumours && rumour < RUMOURS;
        }

        boolean hasPerson(int person) {
            return person >= 0 && person < people && person < PEOPLE;
        }

        int seatOf(int person) {
            return at(seat, person);
        }

        boolean isLie(int rumour) {
            return hasRumour(rumour) && lie[rumour];
        }

        boolean isProved(int rumour, int day) {
            int proved = at(proof, rumour);
            return proved != 0 && day >= proved;
        }

        boolean isProvedTrue(int rumour, int day) {
            return isProved(rumour, day) && !isLie(rumour);
        }

        int valueOn(int day, int rumour, int said, int denied) {
            int value = at(word, rumour);
            if (isProved(rumour, day)) {
                return isLie(rumour) ? 0 : 2 * value;
            }
            return Math.max(0, value + Integer.bitCount(said) - Integer.bitCount(denied));
        }

        int saidAfterDawn(int rumour, int said, int denied, int day) {
            if (isProved(rumour, day + 1) && isLie(rumour)) {
                return 0;
            }
            return (said | said << 1 | said >> 1) & ALL_TABLES & ~denied;
        }

        boolean isFreeOfRivals(int set) {
            for (int r = 0; r < RUMOURS; r++) {
                if (hasBit(set, r) && (set & rivals[r]) != 0) {
                    return false;
                }
            }
            return true;
        }

        void addRumour(int value, boolean isLie, int day) {
            if (isIndex(rumours, RUMOURS)) {
                word[rumours] = value;
                lie[rumours] = isLie;
                proof[rumours] = day;
                rivals[rumours] = 0;
                opening[rumours] = 0;
                rumours++;
            }
        }

        void addPerson(int place) {
            if (isIndex(people, PEOPLE)) {
                seat[people] = place;
                people++;
            }
        }

        void addRivals(int one, int two) {
            if (hasRumour(one) && hasRumour(two)) {
                rivals[one] |= 1 << two;
                rivals[two] |= 1 << one;
            }
        }

        void addOpening(int rumour, int place) {
            if (hasRumour(rumour)) {
                opening[rumour] |= 1 << place;
            }
        }

        /** Rumours behind this one that are no rivals of it so far. */
        int freePartners(int rumour) {
            if (!hasRumour(rumour)) {
                return 0;
            }
            int behind = (1 << rumours) - (2 << rumour);
            return behind & ~rivals[rumour];
        }

        int freeTables(int rumour) {
            return hasRumour(rumour) ? ALL_TABLES & ~opening[rumour] : 0;
        }

        boolean hasFreePair() {
            boolean found = false;
            for (int r = 0; r < rumours; r++) {
                found = found || freePartners(r) != 0;
            }
            return found;
        }

        boolean hasFreeTable() {
            boolean found = false;
            for (int r = 0; r < rumours; r++) {
                found = found || freeTables(r) != 0;
            }
            return found;
        }
    }

    /** The text, read letter by letter: a letter is taken only if some town goes on from it. */
    private static final class Reader {
        private static final int START = 0, BETWEEN = 1;

        private final int[] letters = new int[LETTERS];
        private int part;
        private int figures;
        private int first;
        private int second;
        int length;

        int append(int letter) {
            if (!isIndex(length, LETTERS)) {
                return FULL;
            }
            letters[length] = letter;
            length++;
            return length;
        }

        int readInto(Town town) {
            town.clear();
            part = START;
            for (int i = 0; i < length && i < LETTERS; i++) {
                if (!takes(town, letters[i])) {
                    return i;
                }
            }
            return part == BETWEEN ? NONE : length;
        }

        private boolean takes(Town town, int letter) {
            int figure = letter - '0';
            switch (part) {
                case START:
                    part = BETWEEN;
                    return letter == 'Y';
                case BETWEEN:
                    part = letter;
                    figures = 0;
                    return opensPart(town, letter);
                case 'R': return takesOfRumour(town, figure);
                case 'X': return takesOfRivals(town, figure);
                case 'P': return takesOfPerson(town, figure);
                case 'S': return takesOfOpening(town, figure);
                default: return false;
            }
        }

        private boolean opensPart(Town town, int letter) {
            switch (letter) {
                case 'R': return town.rumours < RUMOURS;
                case 'X': return town.hasFreePair();
                case 'P': return town.people < PEOPLE;
                case 'S': return town.hasFreeTable();
                default: return false;
            }
        }

        private boolean takesOfRumour(Town town, int figure) {
            figures++;
            switch (figures) {
                case 1:
                    first = figure;
                    return !isOutside(figure, 1, 9);
                case 2:
                    second = figure;
                    return !isOutside(figure, 0, 1);
                default:
                    return endsRumour(town, figure);
            }
        }

        private boolean endsRumour(Town town, int figure) {
            if (isOutside(figure, 0, 9)) {
                return false;
            }
            part = BETWEEN;
            town.addRumour(first, second == 1, figure);
            return true;
        }

        private boolean takesOfRivals(Town town, int figure) {
            figures++;
            if (figures == 1) {
                first = figure;
                return town.freePartners(figure) != 0;
            }
            if (!hasBit(town.freePartners(first), figure)) {
                return false;
            }
            part = BETWEEN;
            town.addRivals(first, figure);
            return true;
        }

        private boolean takesOfPerson(Town town, int figure) {
            if (!isTable(figure)) {
                return false;
            }
            part = BETWEEN;
            town.addPerson(figure);
            return true;
        }

        private boolean takesOfOpening(Town town, int figure) {
            figures++;
            if (figures == 1) {
                first = figure;
                return town.freeTables(figure) != 0;
            }
            if (!hasBit(town.freeTables(first), figure)) {
                return false;
            }
            part = BETWEEN;
            town.addOpening(first, figure);
            return true;
        }
    }

    /** What changes from day to day: what is said and denied, the purses, the day. */
    private static final class Standing {
        private final int[] said = new int[RUMOURS];
        private final int[] denied = new int[RUMOURS];
        private final int[] coin = new int[PEOPLE * RUMOURS];
        int day;

        void open(Town town) {
            day = 0;
            for (int r = 0; r < RUMOURS; r++) {
                said[r] = town.hasRumour(r) ? town.opening[r] : 0;
                denied[r] = 0;
            }
            for (int i = 0; i < coin.length; i++) {
                coin[i] = 0;
            }
        }

        void copyFrom(Standing other) {
            System.arraycopy(other.said, 0, said, 0, RUMOURS);
            System.arraycopy(other.denied, 0, denied, 0, RUMOURS);
            System.arraycopy(other.coin, 0, coin, 0, PEOPLE * RUMOURS);
            day = other.day;
        }

        int saidOf(int rumour) {
            return at(said, rumour);
        }

        int deniedOf(int rumour) {
            return at(denied, rumour);
        }

        int coinsOf(int person, int rumour) {
            return at(coin, person * RUMOURS + rumour);
        }

        void addCoins(int person, int rumour, int number) {
            int place = person * RUMOURS + rumour;
            if (isIndex(place, coin.length)) {
                coin[place] += number;
            }
        }

        boolean canBeSaid(Town town, int rumour, int place) {
            return town.hasRumour(rumour) && isTable(place) && !town.isProved(rumour, day)
                && !hasBit(saidOf(rumour) | deniedOf(rumour), place);
        }

        void putSaid(int rumour, int place) {
            if (isIndex(rumour, RUMOURS) && isTable(place)) {
                said[rumour] |= 1 << place;
            }
        }

        boolean canBeDenied(Town town, int rumour, int place) {
            return town.hasRumour(rumour) && isTable(place) && !town.isProvedTrue(rumour, day)
                && !hasBit(deniedOf(rumour), place);
        }

        void putDenied(int rumour, int place) {
            if (isIndex(rumour, RUMOURS) && isTable(place)) {
                denied[rumour] |= 1 << place;
                said[rumour] &= ~(1 << place);
            }
        }

        boolean isTakenBy(Town town, int person, int rumour) {
            return valueOf(town, rumour) >= 1 && coinsOf(person, rumour) < MOST_COINS
                && !hasRivalCoin(town, person, rumour);
        }

        private boolean hasRivalCoin(Town town, int person, int rumour) {
            for (int r = 0; r < RUMOURS; r++) {
                if (hasBit(at(town.rivals, rumour), r) && coinsOf(person, r) > 0) {
                    return true;
                }
            }
            return false;
        }

        int passDawn(Town town) {
            int struck = 0;
            for (int r = 0; r < RUMOURS; r++) {
                struck += strike(town, r);
                said[r] = town.saidAfterDawn(r, said[r], denied[r], day);
            }
            day++;
            return struck;
        }

        private int strike(Town town, int rumour) {
            int struck = 0;
            for (int p = 0; p < town.people; p++) {
                if (hasBit(saidOf(rumour), town.seatOf(p)) && coinsOf(p, rumour) < MOST_COINS) {
                    addCoins(p, rumour, 1);
                    struck++;
                }
            }
            return struck;
        }

        int valueOf(Town town, int rumour) {
            return town.valueOn(day, rumour, saidOf(rumour), deniedOf(rumour));
        }

        int valueOfAll(Town town) {
            int sum = 0;
            for (int r = 0; r < town.rumours; r++) {
                sum += valueOf(town, r);
            }
            return sum;
        }

        /** What the coins of these rumours in a purse are worth. */
        int valueOfSet(Town town, int person, int set) {
            int sum = 0;
            for (int r = 0; r < town.rumours; r++) {
                if (hasBit(set, r)) {
                    sum += coinsOf(person, r) * valueOf(town, r);
                }
            }
            return sum;
        }

        int valueOfPurses(Town town) {
            int sum = 0;
            for (int p = 0; p < town.people; p++) {
                sum += valueOfSet(town, p, ALL_SETS - 1);
            }
            return sum;
        }

        int allCoins() {
            int sum = 0;
            for (int i = 0; i < coin.length; i++) {
                sum += coin[i];
            }
            return sum;
        }

        int rumoursSaid() {
            int bits = 0;
            for (int r = 0; r < RUMOURS; r++) {
                bits |= said[r] != 0 ? 1 << r : 0;
            }
            return bits;
        }
    }

    /** The row of acts, each told by how all stood ahead of it; the oldest gives way. */
    private static final class ActRow {
        private final Standing[] ahead = new Standing[ACTS];
        private int next;
        int held;

        ActRow() {
            for (int i = 0; i < ACTS; i++) {
                ahead[i] = new Standing();
            }
        }

        void remember(Standing standing) {
            Standing place = isIndex(next, ahead.length) ? ahead[next] : null;
            if (place != null) {
                place.copyFrom(standing);
                next = (next + 1) % ACTS;
                held = Math.min(held + 1, ACTS);
            }
        }

        boolean takeBack(Standing standing) {
            int last = (next + ACTS - 1) % ACTS;
            Standing place = isIndex(last, ahead.length) ? ahead[last] : null;
            if (held < 1 || place == null) {
                return false;
            }
            standing.copyFrom(place);
            next = last;
            held--;
            return true;
        }
    }

    /** What is heard; it outlives the town. */
    private static final class Hearsay {
        final int[] rumour = new int[MOST_HEARD];
        final int[] place = new int[MOST_HEARD];
        final int[] days = new int[MOST_HEARD];
        final boolean[] said = new boolean[MOST_HEARD];
        int held;

        int append(int what, int spot, int n, boolean isSaid) {
            if (!isIndex(held, MOST_HEARD)) {
                return FULL;
            }
            rumour[held] = what;
            place[held] = spot;
            days[held] = n;
            said[held] = isSaid;
            held++;
            return held;
        }
    }
}
