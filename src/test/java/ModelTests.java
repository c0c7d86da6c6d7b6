import java.util.ArrayList;
import java.util.List;
import java.util.Random;

/**
 * Long runs of chance calls (the same ones each time), every answer held against a slow model that
 * goes by the document's words: it tries all ways to pair, all rings, and mends a plan till no
 * change makes it cheaper.
 */
public final class ModelTests {
    private static final int CALLS = 512;
    private static int asked = 0;
    private static int wrong = 0;

    private record Entry(int house, int kind, int day, int n) {}

    private static final class Told {
        boolean give;
        int from;
        int to;
        int kind;
        int n;
        int day;
        int state;
        int pair = -9;
    }

    private static final class Match {
        int give;
        int take;
        int counted;
        boolean quarrel;
        boolean judged;
    }

    private static final class Model {
        final List<int[]> kinds = new ArrayList<>();
        final List<Entry> entries = new ArrayList<>();
        final List<Told> tellings = new ArrayList<>();
        final List<Match> pairs = new ArrayList<>();
        final List<long[]> bills = new ArrayList<>();
        final int[][] lost = new int[10][6];
        final int[][][] debt = new int[6][10][10];
        final int[][] ways = new int[10][10];
        final int[] empties = new int[10];
        final int[] wants = new int[10];
        final int[] bought = new int[6];
        final int[] refused = new int[7];
        int houses;
        int day;
        int rule;

        int refuse(int why) {
            refused[-why]++;
            return why;
        }

        int refuseTold(int why) {
            return 1000000000 - refuse(why);
        }

        boolean noHouse(int h) {
            return h < 0 || h >= houses;
        }

        boolean noKind(int k) {
            return k < 0 || k >= kinds.size();
        }

        void enter(int house, int kind, int d, int n) {
            int month = d / 30;
            int made = d;
            while (month < bills.size()) {
                month++;
                made = month * 30;
            }
            entries.add(new Entry(house, kind, made, n));
        }

        int accountAt(int house, int kind, int d) {
            int sum = 0;
            for (Entry e : entries) {
                if (e.house() == house && e.kind() == kind && e.day() <= d) {
                    sum += e.n();
                }
            }
            return sum;
        }

        int house() {
            return houses == 10 ? refuse(-6) : houses++;
        }

        int kind(int worth, int fee) {
            if (worth < 1 || fee < 0) return refuse(-4);
            if (worth > 1000 || fee > 100 || kinds.size() == 6) return refuse(-6);
            kinds.add(new int[] {worth, fee});
            return kinds.size() - 1;
        }

        int days(int n) {
            if (n < 1) return refuse(-4);
            if ((long) day + n > 599) return refuse(-6);
            day += n;
            return day;
        }

        int buy(int h, int k, int n) {
            if (noHouse(h) || noKind(k)) return refuseTold(-1);
            if (n < 1) return refuseTold(-4);
            if (n > 1000 || entries.size() >= 2000) return refuseTold(-6);
            enter(h, k, day, n);
            bought[k] += n;
            return accountAt(h, k, day);
        }

        int scrap(int h, int k, int n) {
            if (noHouse(h) || noKind(k)) return refuseTold(-1);
            if (n < 1) return refuseTold(-4);
            if (n > accountAt(h, k, day)) return refuseTold(-5);
            if (entries.size() >= 2000) return refuseTold(-6);
            enter(h, k, day, -n);
            bought[k] -= n;
            return accountAt(h, k, day);
        }

        int tell(boolean give, int from, int to, int k, int n) {
            if (noHouse(from) || noHouse(to) || from == to || noKind(k)) return refuse(-1);
            if (n < 1) return refuse(-4);
            if (n > 1000 || tellings.size() >= 400) return refuse(-6);
            Told t = new Told();
            t.give = give;
            t.from = from;
            t.to = to;
            t.kind = k;
            t.n = n;
            t.day = day;
            tellings.add(t);
            return tellings.size() - 1;
        }

        int drop(int t) {
            if (t < 0 || t >= tellings.size()) return refuse(-1);
            if (tellings.get(t).state != 0) return refuse(-3);
            tellings.get(t).state = 2;
            return 1;
        }

        int rule(int r) {
            if (r < 0 || r > 3) return refuse(-2);
            int was = rule;
            rule = r;
            return was;
        }

        int pair() {
            if (entries.size() > 1900) return refuse(-6);
            int came = 0;
            for (int from = 0; from < houses; from++) {
                for (int to = 0; to < houses; to++) {
                    for (int k = 0; k < kinds.size(); k++) {
                        came += pairThese(from, to, k, 25 - came);
                    }
                }
            }
            return came;
        }

        List<Integer> firstOpen(boolean give, int from, int to, int k) {
            List<Integer> open = new ArrayList<>();
            for (int i = 0; i < tellings.size() && open.size() < 8; i++) {
                Told t = tellings.get(i);
                if (t.state == 0 && t.give == give && t.from == from && t.to == to && t.kind == k) {
                    open.add(i);
                }
            }
            return open;
        }

        int pairThese(int from, int to, int k, int most) {
            List<Integer> gives = firstOpen(true, from, to, k);
            List<Integer> takes = firstOpen(false, from, to, k);
            if (gives.isEmpty() || takes.isEmpty() || most == 0) return 0;
            bestCount = -1;
            tryAll(gives, takes, new int[gives.size()], 0, 0, 0, 0);
            int came = 0;
            for (int g = 0; g < gives.size() && came < most; g++) {
                if (bestWay[g] >= 0) {
                    makePair(gives.get(g), takes.get(bestWay[g]));
                    came++;
                }
            }
            return came;
        }

        int bestCount;
        int bestSum;
        int[] bestWay;

        // All ways in order, none last: the first of the best ones is the one that is due.
        void tryAll(List<Integer> gives, List<Integer> takes, int[] way, int g, int used,
                int count, int sum) {
            if (g == gives.size()) {
                if (count > bestCount || count == bestCount && sum < bestSum) {
                    bestCount = count;
                    bestSum = sum;
                    bestWay = way.clone();
                }
                return;
            }
            if (count + gives.size() - g < bestCount) return;
            for (int t = 0; t < takes.size(); t++) {
                int apart = tellings.get(gives.get(g)).day - tellings.get(takes.get(t)).day;
                if ((used >> t & 1) == 0 && apart >= -3 && apart <= 3) {
                    way[g] = t;
                    int further = apart < 0 ? -apart : apart;
                    tryAll(gives, takes, way, g + 1, used | 1 << t, count + 1, sum + further);
                }
            }
            way[g] = -1;
            tryAll(gives, takes, way, g + 1, used, count, sum);
        }

        void makePair(int give, int take) {
            Told a = tellings.get(give);
            Told b = tellings.get(take);
            Match m = new Match();
            m.give = give;
            m.take = take;
            m.quarrel = a.n != b.n;
            m.counted = new int[] {b.n, Math.min(a.n, b.n), Math.max(a.n, b.n), a.n}[rule];
            a.state = 1;
            b.state = 1;
            a.pair = pairs.size();
            b.pair = pairs.size();
            pairs.add(m);
            enter(a.from, a.kind, b.day, -m.counted);
            enter(a.to, a.kind, b.day, m.counted);
        }

        int judge(int p, int n) {
            if (p < 0 || p >= pairs.size()) return refuse(-1);
            Match m = pairs.get(p);
            if (!m.quarrel) return refuse(-3);
            if (n < 0) return refuse(-4);
            if (n > 1000 || entries.size() > 1998) return refuse(-6);
            int was = m.counted;
            Told b = tellings.get(m.take);
            if (n != was) {
                enter(b.from, b.kind, b.day, was - n);
                enter(b.to, b.kind, b.day, n - was);
            }
            m.counted = n;
            m.judged = true;
            return was;
        }

        int found(int h, int k, int n) {
            if (noHouse(h) || noKind(k)) return refuseTold(-1);
            if (n < 0) return refuseTold(-4);
            if (n > 100000 || entries.size() >= 2000) return refuseTold(-6);
            int was = accountAt(h, k, day);
            if (was != n) enter(h, k, day, n - was);
            lost[h][k] += was - n;
            return was;
        }

        int account(int h, int k, int d) {
            if (noHouse(h) || noKind(k)) return refuseTold(-1);
            if (d < 0) return refuseTold(-4);
            if (d > 599) return refuseTold(-6);
            return accountAt(h, k, d);
        }

        int lost(int h, int k) {
            return noHouse(h) || noKind(k) ? refuseTold(-1) : lost[h][k];
        }

        int turnsOf(int h, int k) {
            int sum = 0;
            for (Match m : pairs) {
                Told b = tellings.get(m.take);
                if (b.to == h && b.kind == k) sum += m.counted;
            }
            return sum;
        }

        int turns(int h, int k) {
            return noHouse(h) || noKind(k) ? refuse(-1) : turnsOf(h, k);
        }

        int share(int h, int k) {
            if (noHouse(h) || noKind(k)) return refuse(-1);
            long sum = 0;
            long all = 0;
            for (int i = 0; i < houses; i++) {
                sum += lost[i][k];
                all += turnsOf(i, k);
            }
            if (sum <= 0 || all == 0) return 0;
            sum *= kinds.get(k)[0];
            long[] pays = new long[houses];
            long[] rest = new long[houses];
            long unpaid = sum;
            for (int i = 0; i < houses; i++) {
                pays[i] = sum * turnsOf(i, k) / all;
                rest[i] = sum * turnsOf(i, k) - pays[i] * all;
                unpaid -= pays[i];
            }
            while (unpaid > 0) {
                int most = 0;
                for (int i = 1; i < houses; i++) {
                    if (rest[i] > rest[most]) most = i;
                }
                rest[most] = -1;
                pays[most]++;
                unpaid--;
            }
            return (int) pays[h];
        }

        long feesOf(int h, int month) {
            long sum = 0;
            for (int d = month * 30; d < month * 30 + 30; d++) {
                for (int k = 0; k < kinds.size(); k++) {
                    sum += (long) Math.max(0, accountAt(h, k, d)) * kinds.get(k)[1];
                }
            }
            return sum;
        }

        long fees(int h, int month) {
            if (noHouse(h)) return refuse(-1);
            if (month < 0) return refuse(-4);
            if (month > 19) return refuse(-6);
            return feesOf(h, month);
        }

        int close() {
            if (day <= bills.size() * 30 + 29) return refuse(-3);
            long[] kept = new long[10];
            for (int h = 0; h < houses; h++) {
                kept[h] = feesOf(h, bills.size());
            }
            bills.add(kept);
            return bills.size() - 1;
        }

        long bill(int h, int month) {
            if (noHouse(h)) return refuse(-1);
            if (month < 0) return refuse(-4);
            if (month > 19) return refuse(-6);
            return month >= bills.size() ? refuse(-3) : bills.get(month)[h];
        }

        int telling(int i, int what) {
            if (i < 0 || i >= tellings.size() || what < 0 || what > 7) return -9;
            Told t = tellings.get(i);
            return new int[] {t.give ? 1 : 0, t.from, t.to, t.kind, t.n, t.day, t.state, t.pair}[what];
        }

        int pairOf(int p, int what) {
            if (p < 0 || p >= pairs.size() || what < 0 || what > 5) return -9;
            Match m = pairs.get(p);
            int d = tellings.get(m.take).day;
            return new int[] {m.give, m.take, d, m.quarrel ? 1 : 0, m.counted, m.judged ? 1 : 0}[what];
        }

        int owe(int h, int o, int k, int n) {
            if (noHouse(h) || noHouse(o) || h == o || noKind(k)) return refuse(-1);
            if (n < 1) return refuse(-4);
            if ((long) debt[k][h][o] + n > 100000) return refuse(-6);
            return debt[k][h][o] += n;
        }

        int owes(int h, int o, int k) {
            return noHouse(h) || noHouse(o) || noKind(k) ? refuse(-1) : debt[k][h][o];
        }

        List<Integer> firstRing;

        void findRing(int k) {
            firstRing = null;
            for (int h = 0; h < houses; h++) {
                List<Integer> begun = new ArrayList<>();
                begun.add(h);
                goOn(k, begun);
            }
        }

        // Rings come in order of their houses, so that only one with fewer houses is better.
        void goOn(int k, List<Integer> begun) {
            if (firstRing != null && begun.size() >= firstRing.size()) return;
            int at = begun.get(begun.size() - 1);
            if (begun.size() > 1 && debt[k][at][begun.get(0)] > 0) {
                firstRing = new ArrayList<>(begun);
                return;
            }
            for (int next = begun.get(0) + 1; next < houses; next++) {
                if (debt[k][at][next] > 0 && !begun.contains(next)) {
                    begun.add(next);
                    goOn(k, begun);
                    begun.remove(begun.size() - 1);
                }
            }
        }

        int ring(int k, int i) {
            if (noKind(k)) return refuse(-1);
            findRing(k);
            return firstRing == null || i < 0 || i >= firstRing.size() ? -9 : firstRing.get(i);
        }

        int off(int k) {
            if (noKind(k)) return refuse(-1);
            int rings = 0;
            for (findRing(k); firstRing != null; findRing(k)) {
                int least = Integer.MAX_VALUE;
                int size = firstRing.size();
                for (int i = 0; i < size; i++) {
                    least = Math.min(least, debt[k][firstRing.get(i)][firstRing.get((i + 1) % size)]);
                }
                for (int i = 0; i < size; i++) {
                    debt[k][firstRing.get(i)][firstRing.get((i + 1) % size)] -= least;
                }
                rings++;
            }
            return rings;
        }

        int want(int h, int e, int w) {
            if (noHouse(h)) return refuse(-1);
            if (e < 0 || w < 0) return refuse(-4);
            if (e > 100 || w > 100) return refuse(-6);
            empties[h] = e;
            wants[h] = w;
            return 1;
        }

        int way(int a, int b, int n) {
            if (noHouse(a) || noHouse(b) || a == b) return refuse(-1);
            if (n < 0) return refuse(-4);
            if (n > 1000) return refuse(-6);
            int was = ways[a][b];
            ways[a][b] = n;
            ways[b][a] = n;
            return was;
        }

        int plan() {
            int spare = 0;
            for (int h = 0; h < houses; h++) {
                spare += empties[h] - wants[h];
            }
            if (spare < 0) return refuse(-5);
            return cheapest(spare);
        }

        // Column 10 takes the empties that stay. Any plan is mended by rings of moves till no
        // ring makes it cheaper; such a plan is a least one.
        int cheapest(int spare) {
            int[][] move = new int[10][11];
            int[] open = new int[11];
            System.arraycopy(wants, 0, open, 0, 10);
            open[10] = spare;
            for (int g = 0; g < 10; g++) {
                int left = empties[g];
                for (int w = 0; w < 11; w++) {
                    move[g][w] = Math.min(left, open[w]);
                    left -= move[g][w];
                    open[w] -= move[g][w];
                }
            }
            while (mend(move)) { }
            int sum = 0;
            for (int g = 0; g < 10; g++) {
                for (int w = 0; w < 10; w++) {
                    sum += move[g][w] * ways[g][w];
                }
            }
            return sum;
        }

        int cost(int g, int w) {
            return w == 10 ? 0 : ways[g][w];
        }

        // Givers are 0 .. 9, wants 10 .. 20; a ring of negative cost is found by Bellman and Ford.
        boolean mend(int[][] move) {
            long[] far = new long[21];
            int[] before = new int[21];
            int last = -1;
            for (int round = 0; round < 21; round++) {
                last = -1;
                for (int g = 0; g < 10; g++) {
                    for (int w = 0; w < 11; w++) {
                        if (far[g] + cost(g, w) < far[10 + w]) {
                            far[10 + w] = far[g] + cost(g, w);
                            before[10 + w] = g;
                            last = 10 + w;
                        }
                        if (move[g][w] > 0 && far[10 + w] - cost(g, w) < far[g]) {
                            far[g] = far[10 + w] - cost(g, w);
                            before[g] = 10 + w;
                            last = g;
                        }
                    }
                }
            }
            if (last < 0) return false;
            for (int i = 0; i < 21; i++) {
                last = before[last];
            }
            int amount = Integer.MAX_VALUE;
            int at = last;
            do {
                if (at < 10) amount = Math.min(amount, move[at][before[at] - 10]);
                at = before[at];
            } while (at != last);
            do {
                if (at < 10) move[at][before[at] - 10] -= amount;
                else move[before[at]][at - 10] += amount;
                at = before[at];
            } while (at != last);
            return true;
        }

        boolean check(int k) {
            if (noKind(k)) return false;
            int sum = 0;
            for (Entry e : entries) {
                if (e.kind() == k) sum += e.n();
            }
            for (int h = 0; h < houses; h++) {
                sum += lost[h][k];
            }
            return sum == bought[k];
        }

        int count(int what) {
            int open = 0;
            for (Told t : tellings) {
                if (t.state == 0) open++;
            }
            int quarrels = 0;
            for (Match m : pairs) {
                if (m.quarrel && !m.judged) quarrels++;
            }
            if (what >= 11 && what <= 16) return refused[what - 10];
            if (what < 0 || what > 8) return -9;
            return new int[] {day, houses, kinds.size(), entries.size(), tellings.size(), open,
                pairs.size(), quarrels, bills.size()}[what];
        }
    }

    /** A kind of run: how many houses and kinds, how the calls are weighed. */
    private static final class Run {
        final Random chance;
        final CarrierPool x = new CarrierPool();
        final Model m = new Model();
        final int houses;
        final int kinds;
        final int seed;
        final StringBuilder calls = new StringBuilder();

        Run(int seed) {
            this.seed = seed;
            chance = new Random(seed);
            houses = 1 + chance.nextInt(10);
            kinds = 1 + chance.nextInt(6);
        }

        int below(int n) {
            return chance.nextInt(n);
        }

        // Mostly a number that there is, seldom one beside them.
        int some(int n) {
            int r = below(40);
            if (r == 0) return -1;
            if (r == 1) return n;
            return n < 1 ? 0 : below(n);
        }

        int amount(int most) {
            int r = below(40);
            if (r == 0) return -below(2);
            if (r == 1) return most + 1;
            if (r == 2) return most;
            return r < 20 ? 1 + below(9) : 1 + below(most);
        }

        void due(String call, long got, long want) {
            asked++;
            if (got != want) {
                wrong++;
                if (wrong < 20) {
                    System.out.println("run " + seed + ": " + call + " answered " + got
                            + ", the model says " + want);
                }
            }
        }

        void go() {
            for (int h = 0; h < houses; h++) {
                due("house()", x.house(), m.house());
            }
            for (int k = 0; k < kinds; k++) {
                int worth = 1 + below(1000);
                int fee = below(101);
                due("kind", x.kind(worth, fee), m.kind(worth, fee));
            }
            int style = below(5);
            for (int c = houses + kinds; c < CALLS; c++) {
                step(style);
            }
        }

        void step(int style) {
            int r = below(100);
            if (style == 0) {
                if (r < 55) tellOne();
                else if (r < 65) pairAll();
                else if (r < 75) dayOn();
                else stock();
            } else if (style == 1) {
                if (r < 60) debtOne();
                else any();
            } else if (style == 2) {
                if (r < 60) carryOne();
                else any();
            } else if (style == 3) {
                if (r < 70) tellOne();
                else if (r < 72) pairAll();
                else if (r < 80) dayOn();
                else any();
            } else {
                any();
            }
        }

        void any() {
            int r = below(8);
            if (r == 0) tellOne();
            else if (r == 1) pairAll();
            else if (r == 2) dayOn();
            else if (r == 3) stock();
            else if (r == 4) debtOne();
            else if (r == 5) carryOne();
            else ask();
        }

        void tellOne() {
            if (below(20) == 0) {
                int t = some(m.tellings.size());
                due("drop(" + t + ")", x.drop(t), m.drop(t));
                return;
            }
            boolean give = chance.nextBoolean();
            boolean narrow = seed % 3 != 0;
            int from = narrow ? below(2) : some(houses);
            int to = narrow ? below(2) : some(houses);
            int k = narrow ? 0 : some(kinds);
            int n = amount(1000);
            due("tell", x.tell(give, from, to, k, n), m.tell(give, from, to, k, n));
        }

        void pairAll() {
            int r = below(6);
            if (r == 0) {
                int rule = below(6) - 1;
                due("rule(" + rule + ")", x.rule(rule), m.rule(rule));
            } else if (r < 3) {
                due("pair()", x.pair(), m.pair());
            } else {
                int p = some(m.pairs.size());
                int n = amount(1000);
                due("judge(" + p + ", " + n + ")", x.judge(p, n), m.judge(p, n));
            }
        }

        void dayOn() {
            if (below(4) == 0) {
                due("close()", x.close(), m.close());
                return;
            }
            int n = below(12) == 0 ? below(80) - 2 : 1 + below(2);
            due("days(" + n + ")", x.days(n), m.days(n));
        }

        void stock() {
            int h = some(houses);
            int k = some(kinds);
            int n = amount(1000);
            int r = below(9);
            if (r < 2) due("buy", x.buy(h, k, n), m.buy(h, k, n));
            else if (r == 2) due("scrap", x.scrap(h, k, n), m.scrap(h, k, n));
            else if (r == 3) due("found", x.found(h, k, n), m.found(h, k, n));
            else if (r == 4) due("share", x.share(h, k), m.share(h, k));
            else if (r == 5) due("turns", x.turns(h, k), m.turns(h, k));
            else if (r == 6) due("lost", x.lost(h, k), m.lost(h, k));
            else if (r == 7) due("fees", x.fees(h, n % 21), m.fees(h, n % 21));
            else due("account", x.account(h, k, n - 1), m.account(h, k, n - 1));
        }

        void debtOne() {
            int a = some(houses);
            int b = some(houses);
            int k = below(3) == 0 ? some(kinds) : 0;
            int r = below(20);
            if (r < 12) {
                int n = below(9) == 0 ? amount(100000) : amount(9);
                due("owe", x.owe(a, b, k, n), m.owe(a, b, k, n));
            } else if (r < 15) {
                due("owes", x.owes(a, b, k), m.owes(a, b, k));
            } else if (r < 19) {
                int i = below(6) - 1;
                due("ring(" + k + ", " + i + ")", x.ring(k, i), m.ring(k, i));
            } else {
                due("off(" + k + ")", x.off(k), m.off(k));
            }
        }

        void carryOne() {
            int a = some(houses);
            int b = some(houses);
            int r = below(8);
            if (r < 3) {
                int n = amount(below(2) == 0 ? 1000 : 12);
                due("way", x.way(a, b, n), m.way(a, b, n));
            } else if (r < 6) {
                int e = amount(100);
                int w = below(3) == 0 ? amount(100) : amount(30);
                due("want", x.want(a, e, w), m.want(a, e, w));
            } else {
                due("plan()", x.plan(), m.plan());
            }
        }

        void ask() {
            int r = below(7);
            int what = below(10) - 1;
            if (r == 0) {
                int t = some(m.tellings.size());
                due("telling", x.telling(t, what), m.telling(t, what));
            } else if (r == 1) {
                int p = some(m.pairs.size());
                due("pairOf", x.pairOf(p, what), m.pairOf(p, what));
            } else if (r == 2) {
                int k = some(kinds);
                due("check(" + k + ")", x.check(k) ? 1 : 0, m.check(k) ? 1 : 0);
            } else if (r == 3) {
                int h = some(houses);
                int month = below(3) == 0 ? below(23) - 1 : below(3);
                due("bill", x.bill(h, month), m.bill(h, month));
            } else if (r == 4) {
                int h = some(houses);
                int month = below(23) - 1;
                due("fees", x.fees(h, month), m.fees(h, month));
            } else {
                int w = below(20) - 1;
                due("count(" + w + ")", x.count(w), m.count(w));
            }
        }

        // All that can be asked: a call that changed what it should not shows here.
        void compareAll() {
            for (int t = 0; t < m.tellings.size(); t++) {
                for (int what = 0; what < 8; what++) {
                    due("telling(" + t + ", " + what + ")", x.telling(t, what), m.telling(t, what));
                }
            }
            for (int p = 0; p < m.pairs.size(); p++) {
                for (int what = 0; what < 6; what++) {
                    due("pairOf(" + p + ", " + what + ")", x.pairOf(p, what), m.pairOf(p, what));
                }
            }
            for (int h = 0; h < houses; h++) {
                for (int k = 0; k < kinds; k++) {
                    due("account", x.account(h, k, m.day), m.account(h, k, m.day));
                    due("share", x.share(h, k), m.share(h, k));
                    due("lost", x.lost(h, k), m.lost(h, k));
                }
                for (int month = 0; month < 20; month += 3) {
                    due("bill", x.bill(h, month), m.bill(h, month));
                    due("fees", x.fees(h, month), m.fees(h, month));
                }
            }
            for (int what = -1; what < 19; what++) {
                due("count(" + what + ")", x.count(what), m.count(what));
            }
        }
    }

    public static void main(String[] args) {
        int runs = args.length > 0 ? Integer.parseInt(args[0]) : 300;
        for (int seed = 1; seed <= runs; seed++) {
            Run run = new Run(seed);
            run.go();
            run.compareAll();
        }
        System.out.println("ModelTests: " + asked + " answers held against the model, " + wrong + " wrong");
        if (wrong != 0) {
            System.exit(1);
        }
    }
}
