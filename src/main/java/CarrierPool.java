import java.util.Arrays;

/**
 * Carriers (pallets, crates) that go round among houses, told at each door by both sides.
 *
 * <p>The numbered promises of the document say what each public method answers. Every row is made
 * once, with the object, so that calls themselves make little: a telling or a pair at most.
 */
public final class CarrierPool {
    private static final int HOUSES = 10;
    private static final int KINDS = 6;
    private static final int DAYS = 600;
    private static final int MONTH = 30;
    private static final int MONTHS = 20;
    private static final int ENTRIES = 2000;
    private static final int TELLINGS = 400;
    private static final int PAIRS = TELLINGS / 2;
    private static final int GROUPS = HOUSES * HOUSES * KINDS;

    private static final int MOST_WORTH = 1000;
    private static final int MOST_FEE = 100;
    private static final int MOST_CARRIERS = 1000;
    private static final int MOST_FOUND = 100000;
    private static final int MOST_OWED = 100000;
    private static final int MOST_EMPTIES = 100;
    private static final int MOST_WAY = 1000;
    private static final int MOST_ENTRIES_TO_PAIR = 1900;
    private static final int MOST_PAIRS_A_CALL = 25;

    private static final int NOBODY = -1;
    private static final int OTHER = -2;
    private static final int STATE = -3;
    private static final int BELOW = -4;
    private static final int LACK = -5;
    private static final int ROOM = -6;
    private static final int NONE = -9;
    private static final int AMOUNT_REFUSED = 1000000000;

    private static final int OPEN = 0;
    private static final int PAIRED = 1;
    private static final int GONE = 2;

    private static final int RULE_TAKE = 0;
    private static final int RULE_LESSER = 1;
    private static final int RULE_GREATER = 2;
    private static final int RULE_GIVE = 3;

    private int today;
    private int houses;
    private int kinds;
    private int quarrelRule;
    private final int[] worths = new int[KINDS];
    private final int[] feeOfKind = new int[KINDS];
    private final int[] bought = new int[KINDS];
    private final int[] broken = new int[KINDS];
    private final int[] missing = new int[HOUSES * KINDS];
    private final int[] refusals = new int[1 - ROOM];
    private final long[] keptFees = new long[HOUSES * MONTHS];
    private final Ledger ledger = new Ledger();
    private final Doors doors = new Doors();
    private final Debts debts = new Debts();
    private final Carrying carrying = new Carrying();

    public CarrierPool() {
        today = 0;
        houses = 0;
        kinds = 0;
        quarrelRule = RULE_TAKE;
    }

    public int house() {
        if (houses >= HOUSES) {
            return refuse(ROOM);
        }
        houses++;
        return houses - 1;
    }

    public int kind(int worth, int fee) {
        if (worth < 1 || fee < 0) {
            return refuse(BELOW);
        }
        if (worth > MOST_WORTH || fee > MOST_FEE || kinds >= KINDS) {
            return refuse(ROOM);
        }
        worths[kinds] = worth;
        feeOfKind[kinds] = fee;
        kinds++;
        return kinds - 1;
    }

    public int days(int n) {
        if (n < 1) {
            return refuse(BELOW);
        }
        if (n > DAYS - 1 - today) {
            return refuse(ROOM);
        }
        today += n;
        return today;
    }

    public int buy(int house, int kind, int n) {
        if (!isHouse(house) || !isKind(kind)) {
            return refuseAmount(NOBODY);
        }
        if (n < 1) {
            return refuseAmount(BELOW);
        }
        if (n > MOST_CARRIERS || ledger.room() < 1) {
            return refuseAmount(ROOM);
        }
        ledger.enter(house, kind, today, n);
        bought[kind] += n;
        return ledger.sumUpTo(house, kind, today);
    }

    public int scrap(int house, int kind, int n) {
        if (!isHouse(house) || !isKind(kind)) {
            return refuseAmount(NOBODY);
        }
        if (n < 1) {
            return refuseAmount(BELOW);
        }
        if (n > ledger.sumUpTo(house, kind, today)) {
            return refuseAmount(LACK);
        }
        if (ledger.room() < 1) {
            return refuseAmount(ROOM);
        }
        ledger.enter(house, kind, today, -n);
        broken[kind] += n;
        return ledger.sumUpTo(house, kind, today);
    }

    public int tell(boolean give, int from, int to, int kind, int n) {
        if (!areTwoHouses(from, to) || !isKind(kind)) {
            return refuse(NOBODY);
        }
        if (n < 1) {
            return refuse(BELOW);
        }
        if (n > MOST_CARRIERS || doors.tellingCount >= TELLINGS) {
            return refuse(ROOM);
        }
        int number = doors.tellingCount;
        doors.keepTelling(new Telling(number, give, from, to, kind, n, today));
        return number;
    }

    public int drop(int telling) {
        Telling told = doors.tellingAt(telling);
        if (told == null) {
            return refuse(NOBODY);
        }
        if (told.state != OPEN) {
            return refuse(STATE);
        }
        told.state = GONE;
        return 1;
    }

    public int rule(int r) {
        if (r < RULE_TAKE || r > RULE_GIVE) {
            return refuse(OTHER);
        }
        int before = quarrelRule;
        quarrelRule = r;
        return before;
    }

    public int pair() {
        if (ledger.size > MOST_ENTRIES_TO_PAIR) {
            return refuse(ROOM);
        }
        int first = doors.pairCount;
        int came = doors.pairUp(quarrelRule);
        for (int p = first; p < first + came; p++) {
            Pair made = doors.pairAt(p);
            if (made != null) {
                enterMove(made, made.counted);
            }
        }
        return came;
    }

    public int judge(int pair, int n) {
        Pair judged = doors.pairAt(pair);
        if (judged == null) {
            return refuse(NOBODY);
        }
        if (!judged.isQuarrel()) {
            return refuse(STATE);
        }
        if (n < 0) {
            return refuse(BELOW);
        }
        if (n > MOST_CARRIERS || ledger.room() < 2) {
            return refuse(ROOM);
        }
        int before = judged.counted;
        if (n != before) {
            enterMove(judged, n - before);
        }
        judged.counted = n;
        judged.judged = true;
        return before;
    }

    public int found(int house, int kind, int n) {
        if (!isHouse(house) || !isKind(kind)) {
            return refuseAmount(NOBODY);
        }
        if (n < 0) {
            return refuseAmount(BELOW);
        }
        if (n > MOST_FOUND || ledger.room() < 1) {
            return refuseAmount(ROOM);
        }
        int before = ledger.sumUpTo(house, kind, today);
        if (before != n) {
            ledger.enter(house, kind, today, n - before);
            missing[house * KINDS + kind] += before - n;
        }
        return before;
    }

    public int account(int house, int kind, int day) {
        if (!isHouse(house) || !isKind(kind)) {
            return refuseAmount(NOBODY);
        }
        if (day < 0) {
            return refuseAmount(BELOW);
        }
        if (day >= DAYS) {
            return refuseAmount(ROOM);
        }
        return ledger.sumUpTo(house, kind, day);
    }

    public int lost(int house, int kind) {
        if (!isHouse(house) || !isKind(kind)) {
            return refuseAmount(NOBODY);
        }
        return missing[house * KINDS + kind];
    }

    public int turns(int house, int kind) {
        if (!isHouse(house) || !isKind(kind)) {
            return refuse(NOBODY);
        }
        return doors.cameTo(house, kind);
    }

    public int share(int house, int kind) {
        if (!isHouse(house) || !isKind(kind)) {
            return refuse(NOBODY);
        }
        return shareOf(house, kind, (long) missingOfKind(kind) * worths[kind]);
    }

    public long fees(int house, int month) {
        int why = whyNoMonth(house, month);
        if (why != 0) {
            return refuse(why);
        }
        return ledger.feesOfMonth(house, month, feeOfKind);
    }

    public int close() {
        int month = ledger.closedMonths;
        if (month >= MONTHS) {
            return refuse(ROOM);
        }
        if ((month + 1) * MONTH > today) {
            return refuse(STATE);
        }
        for (int h = 0; h < houses; h++) {
            keptFees[h * MONTHS + month] = ledger.feesOfMonth(h, month, feeOfKind);
        }
        ledger.closedMonths++;
        return month;
    }

    public long bill(int house, int month) {
        int why = whyNoMonth(house, month);
        if (why != 0) {
            return refuse(why);
        }
        if (month >= ledger.closedMonths) {
            return refuse(STATE);
        }
        return keptFees[house * MONTHS + month];
    }

    public int telling(int t, int what) {
        Telling told = doors.tellingAt(t);
        if (told == null) {
            return NONE;
        }
        switch (what) {
            case 0:
                return told.give ? 1 : 0;
            case 1:
                return told.from;
            case 2:
                return told.to;
            case 3:
                return told.kind;
            case 4:
                return told.carriers;
            case 5:
                return told.day;
            case 6:
                return told.state;
            case 7:
                return told.pairNumber;
            default:
                return NONE;
        }
    }

    public int pairOf(int p, int what) {
        Pair asked = doors.pairAt(p);
        if (asked == null) {
            return NONE;
        }
        switch (what) {
            case 0:
                return asked.give.number;
            case 1:
                return asked.take.number;
            case 2:
                return asked.take.day;
            case 3:
                return asked.isQuarrel() ? 1 : 0;
            case 4:
                return asked.counted;
            case 5:
                return asked.judged ? 1 : 0;
            default:
                return NONE;
        }
    }

    public int owe(int house, int other, int kind, int n) {
        if (!areTwoHouses(house, other) || !isKind(kind)) {
            return refuse(NOBODY);
        }
        if (n < 1) {
            return refuse(BELOW);
        }
        if (n > MOST_OWED - debts.debt(kind, house, other)) {
            return refuse(ROOM);
        }
        debts.add(kind, house, other, n);
        return debts.debt(kind, house, other);
    }

    public int owes(int house, int other, int kind) {
        if (!isHouse(house) || !isHouse(other) || !isKind(kind)) {
            return refuse(NOBODY);
        }
        return debts.debt(kind, house, other);
    }

    public int ring(int kind, int i) {
        if (!isKind(kind)) {
            return refuse(NOBODY);
        }
        debts.findFirstRing(kind);
        return debts.ringHouse(i);
    }

    public int off(int kind) {
        if (!isKind(kind)) {
            return refuse(NOBODY);
        }
        return debts.takeOff(kind);
    }

    public int want(int house, int empties, int wants) {
        if (!isHouse(house)) {
            return refuse(NOBODY);
        }
        if (empties < 0 || wants < 0) {
            return refuse(BELOW);
        }
        if (empties > MOST_EMPTIES || wants > MOST_EMPTIES) {
            return refuse(ROOM);
        }
        carrying.empties[house] = empties;
        carrying.wants[house] = wants;
        return 1;
    }

    public int way(int a, int b, int n) {
        if (!areTwoHouses(a, b)) {
            return refuse(NOBODY);
        }
        if (n < 0) {
            return refuse(BELOW);
        }
        if (n > MOST_WAY) {
            return refuse(ROOM);
        }
        int before = carrying.ways[a * HOUSES + b];
        carrying.ways[a * HOUSES + b] = n;
        carrying.ways[b * HOUSES + a] = n;
        return before;
    }

    public int plan() {
        if (!carrying.hasEnough()) {
            return refuse(LACK);
        }
        return carrying.leastSum(houses);
    }

    public boolean check(int kind) {
        if (!isKind(kind)) {
            return false;
        }
        return bought[kind] - broken[kind] == ledger.sumOfKind(kind) + missingOfKind(kind);
    }

    public int count(int what) {
        switch (what) {
            case 0:
                return today;
            case 1:
                return houses;
            case 2:
                return kinds;
            case 3:
                return ledger.size;
            case 4:
                return doors.tellingCount;
            case 5:
                return doors.openTellings();
            case 6:
                return doors.pairCount;
            case 7:
                return doors.openQuarrels();
            case 8:
                return ledger.closedMonths;
            default:
                return refusalsOf(10 - what);
        }
    }

    private boolean isHouse(int house) {
        return house >= 0 && house < houses;
    }

    private boolean areTwoHouses(int a, int b) {
        return isHouse(a) && isHouse(b) && a != b;
    }

    private boolean isKind(int kind) {
        return kind >= 0 && kind < kinds;
    }

    private int whyNoMonth(int house, int month) {
        if (!isHouse(house)) {
            return NOBODY;
        }
        if (month < 0) {
            return BELOW;
        }
        return month >= MONTHS ? ROOM : 0;
    }

    private int refuse(int why) {
        if (why >= ROOM && why <= NOBODY) {
            refusals[-why]++;
        }
        return why;
    }

    // Amounts may be below 0, so their refusals are told far above any amount.
    private int refuseAmount(int why) {
        return AMOUNT_REFUSED - refuse(why);
    }

    private int refusalsOf(int why) {
        if (why < ROOM || why > NOBODY) {
            return NONE;
        }
        return refusals[-why];
    }

    private void enterMove(Pair moved, int carriers) {
        Telling take = moved.take;
        ledger.enter(take.from, take.kind, take.day, -carriers);
        ledger.enter(take.to, take.kind, take.day, carriers);
    }

    private int missingOfKind(int kind) {
        int sum = 0;
        for (int h = 0; h < houses; h++) {
            sum += missing[h * KINDS + kind];
        }
        return sum;
    }

    private int shareOf(int house, int kind, long toPay) {
        long allTurns = 0;
        for (int h = 0; h < houses; h++) {
            allTurns += doors.cameTo(h, kind);
        }
        if (toPay <= 0 || allTurns <= 0) {
            return 0;
        }
        long own = toPay * doors.cameTo(house, kind);
        long unpaid = toPay;
        int ahead = 0;
        for (int h = 0; h < houses; h++) {
            long part = toPay * doors.cameTo(h, kind);
            unpaid -= part / allTurns;
            if (isAhead(part % allTurns, h, own % allTurns, house)) {
                ahead++;
            }
        }
        long cut = own / allTurns;
        return (int) (ahead < unpaid ? cut + 1 : cut);
    }

    private static boolean isAhead(long rest, int house, long ownRest, int ownHouse) {
        return rest > ownRest || rest == ownRest && house < ownHouse;
    }

    /** The entries, in the order in which they were made, and how many months are closed. */
    private static final class Ledger {
        private final int[] slots = new int[ENTRIES];
        private final int[] entryDays = new int[ENTRIES];
        private final int[] amounts = new int[ENTRIES];
        private final int[] changes = new int[KINDS * MONTH];
        int size;
        int closedMonths;

        int room() {
            return ENTRIES - size;
        }

        void enter(int house, int kind, int day, int amount) {
            if (size >= ENTRIES) {
                return;
            }
            slots[size] = house * KINDS + kind;
            // Months close in order, so all days ahead of the first open month are closed.
            entryDays[size] = Math.max(day, closedMonths * MONTH);
            amounts[size] = amount;
            size++;
        }

        int sumUpTo(int house, int kind, int day) {
            int slot = house * KINDS + kind;
            int sum = 0;
            for (int e = 0; e < size; e++) {
                if (slots[e] == slot && entryDays[e] <= day) {
                    sum += amounts[e];
                }
            }
            return sum;
        }

        int sumOfKind(int kind) {
            int sum = 0;
            for (int e = 0; e < size; e++) {
                if (slots[e] % KINDS == kind) {
                    sum += amounts[e];
                }
            }
            return sum;
        }

        long feesOfMonth(int house, int month, int[] feeOfKind) {
            gatherChanges(house, month * MONTH);
            long sum = 0;
            for (int k = 0; k < KINDS && k < feeOfKind.length; k++) {
                sum += daySums(k) * feeOfKind[k];
            }
            return sum;
        }

        // What stood ahead of the month counts as a change of its first day.
        private void gatherChanges(int house, int firstDay) {
            Arrays.fill(changes, 0);
            for (int e = 0; e < size; e++) {
                int kind = slots[e] - house * KINDS;
                int dayOfMonth = Math.max(entryDays[e] - firstDay, 0);
                if (kind >= 0 && kind < KINDS && dayOfMonth < MONTH) {
                    changes[kind * MONTH + dayOfMonth] += amounts[e];
                }
            }
        }

        private long daySums(int kind) {
            long sum = 0;
            int stock = 0;
            for (int d = 0; d < MONTH; d++) {
                stock += changes[kind * MONTH + d];
                sum += Math.max(stock, 0);
            }
            return sum;
        }
    }

    /** What one side tells of carriers that went from a house to another one. */
    private static final class Telling {
        final int number;
        final boolean give;
        final int from;
        final int to;
        final int kind;
        final int carriers;
        final int day;
        int state = OPEN;
        int pairNumber = NONE;
        Telling nextOfGroup;

        Telling(int number, boolean give, int from, int to, int kind, int carriers, int day) {
            this.number = number;
            this.give = give;
            this.from = from;
            this.to = to;
            this.kind = kind;
            this.carriers = carriers;
            this.day = day;
        }

        int group() {
            return (from * HOUSES + to) * KINDS + kind;
        }
    }

    /** A give and a take of the same carriers. */
    private static final class Pair {
        final Telling give;
        final Telling take;
        int counted;
        boolean judged;

        Pair(Telling give, Telling take, int counted) {
            this.give = give;
            this.take = take;
            this.counted = counted;
        }

        boolean isQuarrel() {
            return give.carriers != take.carriers;
        }
    }

    /** All tellings and the pairs that came of them. */
    private static final class Doors {
        private final Telling[] tellings = new Telling[TELLINGS];
        private final Pair[] pairs = new Pair[PAIRS];
        private final Telling[] firstOfGroup = new Telling[GROUPS];
        private final Matching matching = new Matching();
        int tellingCount;
        int pairCount;

        Telling tellingAt(int t) {
            return t >= 0 && t < tellingCount ? tellings[t] : null;
        }

        Pair pairAt(int p) {
            return p >= 0 && p < pairCount ? pairs[p] : null;
        }

        void keepTelling(Telling told) {
            if (tellingCount < TELLINGS) {
                tellings[tellingCount] = told;
                tellingCount++;
            }
        }

        int openTellings() {
            int sum = 0;
            for (int t = 0; t < tellingCount; t++) {
                Telling told = tellings[t];
                if (told != null && told.state == OPEN) {
                    sum++;
                }
            }
            return sum;
        }

        int openQuarrels() {
            int sum = 0;
            for (int p = 0; p < pairCount; p++) {
                Pair one = pairs[p];
                if (one != null && one.isQuarrel() && !one.judged) {
                    sum++;
                }
            }
            return sum;
        }

        int cameTo(int house, int kind) {
            int sum = 0;
            for (int p = 0; p < pairCount; p++) {
                Pair one = pairs[p];
                if (one != null && one.take.to == house && one.take.kind == kind) {
                    sum += one.counted;
                }
            }
            return sum;
        }

        int pairUp(int quarrelRule) {
            chainOpenTellings();
            int came = 0;
            for (int g = 0; g < GROUPS && came < MOST_PAIRS_A_CALL; g++) {
                if (firstOfGroup[g] != null) {
                    came += pairGroup(g, quarrelRule, MOST_PAIRS_A_CALL - came);
                }
            }
            return came;
        }

        // Going down by numbers and setting each ahead leaves every chain in order of numbers.
        private void chainOpenTellings() {
            for (int g = 0; g < GROUPS; g++) {
                firstOfGroup[g] = null;
            }
            for (int t = tellingCount - 1; t >= 0; t--) {
                Telling told = tellings[t];
                if (told == null || told.state != OPEN) {
                    continue;
                }
                int group = told.group();
                if (group >= 0 && group < GROUPS) {
                    told.nextOfGroup = firstOfGroup[group];
                    firstOfGroup[group] = told;
                }
            }
        }

        private int pairGroup(int group, int quarrelRule, int most) {
            matching.clear();
            for (Telling t = firstOfGroup[group]; t != null; t = t.nextOfGroup) {
                matching.offer(t);
            }
            if (!matching.hasNear()) {
                return 0;
            }
            matching.solve();
            int came = 0;
            for (int g = 0; g < Matching.SIDE && came < most; g++) {
                Telling give = matching.giveAt(g);
                Telling take = matching.takeFor(g);
                if (give != null && take != null && pairCount < PAIRS) {
                    keepPair(give, take, quarrelRule);
                    came++;
                }
            }
            return came;
        }

        private void keepPair(Telling give, Telling take, int quarrelRule) {
            give.state = PAIRED;
            take.state = PAIRED;
            give.pairNumber = pairCount;
            take.pairNumber = pairCount;
            pairs[pairCount] = new Pair(give, take, countedBy(quarrelRule, give, take));
            pairCount++;
        }

        private static int countedBy(int quarrelRule, Telling give, Telling take) {
            switch (quarrelRule) {
                case RULE_LESSER:
                    return Math.min(give.carriers, take.carriers);
                case RULE_GREATER:
                    return Math.max(give.carriers, take.carriers);
                case RULE_GIVE:
                    return give.carriers;
                default:
                    return take.carriers;
            }
        }
    }

    /**
     * The best way to pair up to eight gives with up to eight takes.
     *
     * <p>A way's score is one number that holds, from its high bits down, how many are paired, how
     * few days they are apart, and for each give in order 4 bits that are greater the earlier its
     * take is (0 for none). The greatest score is therefore the way that is due, and its low bits
     * tell the way itself.
     */
    private static final class Matching {
        static final int SIDE = 8;
        private static final int MOST_APART = 3;
        private static final int CHOICE_BITS = 4;
        private static final int CHOICE_MASK = 15;
        private static final long ONE_PAIR = 1L << 40;
        private static final long ONE_DAY = 1L << 32;
        private static final long UNREACHED = -1;

        private final Telling[] gives = new Telling[SIDE];
        private final Telling[] takes = new Telling[SIDE];
        private final long[] best = new long[1 << SIDE];
        private final long[] scores = new long[SIDE];
        private int giveCount;
        private int takeCount;
        private long bestOfAll;

        void clear() {
            giveCount = 0;
            takeCount = 0;
            bestOfAll = 0;
        }

        void offer(Telling told) {
            if (told.give && giveCount < SIDE) {
                gives[giveCount] = told;
                giveCount++;
            } else if (!told.give && takeCount < SIDE) {
                takes[takeCount] = told;
                takeCount++;
            }
        }

        Telling giveAt(int g) {
            return g >= 0 && g < giveCount ? gives[g] : null;
        }

        private Telling takeAt(int t) {
            return t >= 0 && t < takeCount ? takes[t] : null;
        }

        // Most groups that stay open are out of reach of each other: they need no solving.
        boolean hasNear() {
            for (int g = 0; g < giveCount; g++) {
                for (int t = 0; t < takeCount; t++) {
                    if (areNear(giveAt(g), takeAt(t))) {
                        return true;
                    }
                }
            }
            return false;
        }

        private static boolean areNear(Telling give, Telling take) {
            return give != null && take != null && Math.abs(give.day - take.day) <= MOST_APART;
        }

        void solve() {
            int sets = 1 << takeCount;
            for (int set = 0; set < sets && set < best.length; set++) {
                best[set] = UNREACHED;
            }
            best[0] = 0;
            for (int g = 0; g < giveCount; g++) {
                for (int t = 0; t < takeCount; t++) {
                    scores[t] = scoreOf(g, t);
                }
                addGive(sets);
            }
            for (int set = 0; set < sets && set < best.length; set++) {
                bestOfAll = Math.max(bestOfAll, best[set]);
            }
        }

        private long scoreOf(int g, int t) {
            Telling give = giveAt(g);
            Telling take = takeAt(t);
            if (!areNear(give, take)) {
                return UNREACHED;
            }
            long apart = Math.abs(give.day - take.day);
            long choice = SIDE - t;
            return ONE_PAIR - apart * ONE_DAY + (choice << shiftOf(g));
        }

        // best[set] is the best score with just the takes of the set in use; going down, a set
        // reads only lesser ones, which this give has not touched yet.
        private void addGive(int sets) {
            for (int set = Math.min(sets, best.length) - 1; set > 0; set--) {
                for (int t = 0; t < takeCount && t < SIDE; t++) {
                    int without = set & ~(1 << t);
                    if (without != set && scores[t] != UNREACHED && best[without] != UNREACHED) {
                        best[set] = Math.max(best[set], best[without] + scores[t]);
                    }
                }
            }
        }

        private static int shiftOf(int g) {
            return CHOICE_BITS * (SIDE - 1 - g);
        }

        Telling takeFor(int g) {
            if (g < 0 || g >= giveCount) {
                return null;
            }
            int choice = (int) (bestOfAll >> shiftOf(g)) & CHOICE_MASK;
            return choice == 0 ? null : takeAt(SIDE - choice);
        }
    }

    /** What houses owe one another, kind by kind, and the first ring among them. */
    private static final class Debts {
        private final int[] owed = new int[KINDS * HOUSES * HOUSES];
        private final int[] ringHouses = new int[HOUSES];
        private final int[] steps = new int[HOUSES];
        private final int[] queue = new int[HOUSES];
        private int ringSize;

        int debt(int kind, int house, int other) {
            return owed[(kind * HOUSES + house) * HOUSES + other];
        }

        void add(int kind, int house, int other, int n) {
            owed[(kind * HOUSES + house) * HOUSES + other] += n;
        }

        int ringHouse(int i) {
            return i >= 0 && i < ringSize ? ringHouses[i] : NONE;
        }

        int takeOff(int kind) {
            int rings = 0;
            // Each ring pays one debt off at least, and there are fewer debts than this.
            for (int round = 0; round < HOUSES * HOUSES; round++) {
                findFirstRing(kind);
                if (ringSize == 0) {
                    break;
                }
                lessenRing(kind);
                rings++;
            }
            return rings;
        }

        // A ring is looked for at its least house alone; only a smaller one replaces it.
        void findFirstRing(int kind) {
            ringSize = 0;
            for (int least = 0; least < HOUSES; least++) {
                spreadBack(kind, least);
                int size = sizeAt(kind, least);
                if (size > 0 && (ringSize == 0 || size < ringSize)) {
                    traceRing(kind, least, size);
                }
            }
        }

        // steps[h]: the fewest debts from h to the least house, through greater houses only.
        private void spreadBack(int kind, int least) {
            Arrays.fill(steps, 0);
            queue[0] = least;
            int queued = 1;
            for (int q = 0; q < queued && q < HOUSES; q++) {
                int to = queue[q];
                for (int h = least + 1; h < HOUSES && queued < HOUSES; h++) {
                    if (steps[h] == 0 && debt(kind, h, to) > 0) {
                        steps[h] = steps[to] + 1;
                        queue[queued] = h;
                        queued++;
                    }
                }
            }
        }

        private int sizeAt(int kind, int least) {
            int size = 0;
            for (int h = least + 1; h < HOUSES; h++) {
                boolean closes = steps[h] > 0 && debt(kind, least, h) > 0;
                if (closes && (size == 0 || steps[h] + 1 < size)) {
                    size = steps[h] + 1;
                }
            }
            return size;
        }

        private void traceRing(int kind, int least, int size) {
            ringHouses[0] = least;
            ringSize = 1;
            for (int left = size - 1; left > 0; left--) {
                int next = nextHouse(kind, least, left);
                if (next < 0 || ringSize >= HOUSES) {
                    break;
                }
                ringHouses[ringSize] = next;
                ringSize++;
            }
        }

        private int nextHouse(int kind, int least, int stepsLeft) {
            int at = ringHouses[ringSize - 1];
            for (int h = least + 1; h < HOUSES; h++) {
                if (steps[h] == stepsLeft && debt(kind, at, h) > 0) {
                    return h;
                }
            }
            return -1;
        }

        private void lessenRing(int kind) {
            int least = MOST_OWED;
            for (int i = 0; i < ringSize; i++) {
                least = Math.min(least, debt(kind, ringHouses[i], afterInRing(i)));
            }
            for (int i = 0; i < ringSize; i++) {
                add(kind, ringHouses[i], afterInRing(i), -least);
            }
        }

        private int afterInRing(int i) {
            return i + 1 < ringSize ? ringHouses[i + 1] : ringHouses[0];
        }
    }

    /**
     * Empties, wants and ways, and the least sum of ways that meets all wants.
     *
     * <p>The plan grows by the cheapest chain each time: an empty goes to a want, and may push
     * another empty of that want on to a further one.
     */
    private static final class Carrying {
        private static final int FAR = 1000000000;
        private static final int MOST_CARRIED = HOUSES * MOST_EMPTIES;

        final int[] empties = new int[HOUSES];
        final int[] wants = new int[HOUSES];
        final int[] ways = new int[HOUSES * HOUSES];
        private final int[] carried = new int[HOUSES * HOUSES];
        private final int[] left = new int[HOUSES];
        private final int[] unmet = new int[HOUSES];
        private final int[] giverCost = new int[HOUSES];
        private final int[] wantCost = new int[HOUSES];
        private final int[] giverOf = new int[HOUSES];
        private final int[] freedWant = new int[HOUSES];
        private int size;

        boolean hasEnough() {
            int sum = 0;
            for (int h = 0; h < HOUSES; h++) {
                sum += empties[h] - wants[h];
            }
            return sum >= 0;
        }

        int leastSum(int houses) {
            size = Math.min(houses, HOUSES);
            System.arraycopy(empties, 0, left, 0, HOUSES);
            System.arraycopy(wants, 0, unmet, 0, HOUSES);
            Arrays.fill(carried, 0);
            int sum = 0;
            // Each round carries one empty at least.
            for (int round = 0; round < MOST_CARRIED; round++) {
                findChains();
                int want = cheapestUnmet();
                if (want < 0) {
                    break;
                }
                sum += wantCost[want] * carryAlong(want);
            }
            return sum;
        }

        private void findChains() {
            for (int h = 0; h < HOUSES; h++) {
                giverCost[h] = left[h] > 0 ? 0 : FAR;
                wantCost[h] = FAR;
                giverOf[h] = -1;
                freedWant[h] = -1;
            }
            // A chain goes through each giver and each want once at most.
            for (int round = 0; round < 2 * HOUSES; round++) {
                boolean cheaper = reachWants();
                if (!cheaper || !reachGivers()) {
                    break;
                }
            }
        }

        private boolean reachWants() {
            boolean cheaper = false;
            for (int g = 0; g < size; g++) {
                if (giverCost[g] >= FAR) {
                    continue;
                }
                for (int w = 0; w < size; w++) {
                    int cost = giverCost[g] + ways[g * HOUSES + w];
                    if (cost < wantCost[w]) {
                        wantCost[w] = cost;
                        giverOf[w] = g;
                        cheaper = true;
                    }
                }
            }
            return cheaper;
        }

        private boolean reachGivers() {
            boolean cheaper = false;
            for (int g = 0; g < size; g++) {
                for (int w = 0; w < size; w++) {
                    int cost = wantCost[w] - ways[g * HOUSES + w];
                    if (carried[g * HOUSES + w] > 0 && cost < giverCost[g]) {
                        giverCost[g] = cost;
                        freedWant[g] = w;
                        cheaper = true;
                    }
                }
            }
            return cheaper;
        }

        private int cheapestUnmet() {
            int best = -1;
            for (int w = 0; w < size; w++) {
                boolean open = unmet[w] > 0 && wantCost[w] < FAR;
                if (open && (best < 0 || wantCost[w] < wantCost[best])) {
                    best = w;
                }
            }
            return best;
        }

        private int carryAlong(int lastWant) {
            int amount = amountAlong(lastWant);
            unmet[lastWant] -= amount;
            int want = lastWant;
            for (int step = 0; step < HOUSES && want >= 0; step++) {
                int giver = giverOf[want];
                if (giver < 0) {
                    break;
                }
                carried[giver * HOUSES + want] += amount;
                want = freedWant[giver];
                if (want >= 0) {
                    carried[giver * HOUSES + want] -= amount;
                } else {
                    left[giver] -= amount;
                }
            }
            return amount;
        }

        private int amountAlong(int lastWant) {
            int amount = unmet[lastWant];
            int want = lastWant;
            for (int step = 0; step < HOUSES && want >= 0; step++) {
                int giver = giverOf[want];
                if (giver < 0) {
                    break;
                }
                want = freedWant[giver];
                amount = Math.min(amount, want >= 0 ? carried[giver * HOUSES + want] : left[giver]);
            }
            return amount;
        }
    }
}
