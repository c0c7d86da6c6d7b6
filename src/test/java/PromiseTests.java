/** For each promise: ordinary inputs, the edges that the document names, and wrong inputs. */
public final class PromiseTests {
    private static final int REFUSED = 1000000000;
    private static int promise = 0;
    private static int asked = 0;
    private static int wrong = 0;

    private static void due(String call, long want, long got) {
        asked++;
        if (got != want) {
            wrong++;
            System.out.println(
                    "promise " + promise + ": " + call + " answered " + got + ", due is " + want);
        }
    }

    private static void due(String call, boolean want, boolean got) {
        due(call, want ? 1 : 0, got ? 1 : 0);
    }

    private static CarrierPool pool(int houses, int kinds) {
        CarrierPool x = new CarrierPool();
        for (int h = 0; h < houses; h++) {
            x.house();
        }
        for (int k = 0; k < kinds; k++) {
            x.kind(10 * (k + 1), k + 1);
        }
        return x;
    }

    private static void both(CarrierPool x, int from, int to, int kind, int given, int taken) {
        x.tell(true, from, to, kind, given);
        x.tell(false, from, to, kind, taken);
    }

    private static void newObject() {
        promise = 1;
        CarrierPool x = new CarrierPool();
        for (int what = 0; what <= 8; what++) {
            due("count(" + what + ")", 0, x.count(what));
        }
        for (int what = 11; what <= 16; what++) {
            due("count(" + what + ")", 0, x.count(what));
        }
        due("rule(3)", 0, x.rule(3));
        due("plan()", 0, x.plan());
        due("pair()", 0, x.pair());
    }

    private static void house() {
        promise = 2;
        CarrierPool x = new CarrierPool();
        for (int h = 0; h < 10; h++) {
            due("house()", h, x.house());
        }
        due("house()", -6, x.house());
        due("count(1)", 10, x.count(1));
        due("count(16)", 1, x.count(16));
    }

    private static void kind() {
        promise = 3;
        CarrierPool x = new CarrierPool();
        due("kind(1, 0)", 0, x.kind(1, 0));
        due("kind(1000, 100)", 1, x.kind(1000, 100));
        due("kind(0, 0)", -4, x.kind(0, 0));
        due("kind(1, -1)", -4, x.kind(1, -1));
        due("kind(1001, 0)", -6, x.kind(1001, 0));
        due("kind(1, 101)", -6, x.kind(1, 101));
        due("kind(1001, -1)", -4, x.kind(1001, -1));
        due("kind(0, 101)", -4, x.kind(0, 101));
        due("kind(least)", -4, x.kind(Integer.MIN_VALUE, Integer.MAX_VALUE));
        for (int k = 2; k < 6; k++) {
            due("kind(5, 5)", k, x.kind(5, 5));
        }
        due("kind(5, 5)", -6, x.kind(5, 5));
        due("kind(0, 5)", -4, x.kind(0, 5));
        due("count(2)", 6, x.count(2));
        due("count(14)", 6, x.count(14));
        due("count(16)", 3, x.count(16));
    }

    private static void days() {
        promise = 4;
        CarrierPool x = new CarrierPool();
        due("days(0)", -4, x.days(0));
        due("days(-1)", -4, x.days(-1));
        due("days(600)", -6, x.days(600));
        due("days(1)", 1, x.days(1));
        due("days(599)", -6, x.days(599));
        due("days(greatest)", -6, x.days(Integer.MAX_VALUE));
        due("days(least)", -4, x.days(Integer.MIN_VALUE));
        due("days(598)", 599, x.days(598));
        due("days(1)", -6, x.days(1));
        due("count(0)", 599, x.count(0));
        due("count(14)", 3, x.count(14));
        due("count(16)", 4, x.count(16));
        due("days(599)", 599, new CarrierPool().days(599));
    }

    private static void buy() {
        promise = 5;
        CarrierPool x = pool(2, 2);
        due("buy(0, 0, 1)", 1, x.buy(0, 0, 1));
        due("buy(0, 0, 1000)", 1001, x.buy(0, 0, 1000));
        due("buy(1, 0, 7)", 7, x.buy(1, 0, 7));
        due("buy(0, 1, 8)", 8, x.buy(0, 1, 8));
        x.days(5);
        due("buy(0, 0, 2)", 1003, x.buy(0, 0, 2));
        due("account(0, 0, 4)", 1001, x.account(0, 0, 4));
        due("account(0, 0, 5)", 1003, x.account(0, 0, 5));
        due("count(3)", 5, x.count(3));
        due("buy(2, 0, 1)", REFUSED + 1, x.buy(2, 0, 1));
        due("buy(-1, 0, 1)", REFUSED + 1, x.buy(-1, 0, 1));
        due("buy(0, 2, 0)", REFUSED + 1, x.buy(0, 2, 0));
        due("buy(0, -1, 1)", REFUSED + 1, x.buy(0, -1, 1));
        due("buy(0, 0, 0)", REFUSED + 4, x.buy(0, 0, 0));
        due("buy(0, 0, least)", REFUSED + 4, x.buy(0, 0, Integer.MIN_VALUE));
        due("buy(0, 0, 1001)", REFUSED + 6, x.buy(0, 0, 1001));
        due("count(3)", 5, x.count(3));
        due("count(11)", 4, x.count(11));
        due("count(14)", 2, x.count(14));
        due("count(16)", 1, x.count(16));
    }

    private static void scrap() {
        promise = 6;
        CarrierPool x = pool(2, 1);
        x.buy(0, 0, 1000);
        x.buy(0, 0, 1000);
        due("scrap(0, 0, 1500)", 500, x.scrap(0, 0, 1500));
        due("scrap(0, 0, 501)", REFUSED + 5, x.scrap(0, 0, 501));
        due("scrap(0, 0, 500)", 0, x.scrap(0, 0, 500));
        due("scrap(0, 0, 1)", REFUSED + 5, x.scrap(0, 0, 1));
        due("scrap(1, 0, 1)", REFUSED + 5, x.scrap(1, 0, 1));
        due("scrap(0, 0, 0)", REFUSED + 4, x.scrap(0, 0, 0));
        due("scrap(2, 0, 0)", REFUSED + 1, x.scrap(2, 0, 0));
        due("scrap(0, 1, 0)", REFUSED + 1, x.scrap(0, 1, 0));
        due("scrap(0, 0, greatest)", REFUSED + 5, x.scrap(0, 0, Integer.MAX_VALUE));
        due("count(3)", 4, x.count(3));
        due("check(0)", true, x.check(0));
        both(x, 1, 0, 0, 9, 9);
        x.pair();
        due("scrap(1, 0, 1) of an account below 0", REFUSED + 5, x.scrap(1, 0, 1));
        due("scrap(0, 0, 9)", 0, x.scrap(0, 0, 9));
    }

    private static void tell() {
        promise = 7;
        CarrierPool x = pool(3, 2);
        due("tell(true, 0, 1, 0, 1)", 0, x.tell(true, 0, 1, 0, 1));
        due("tell(false, 2, 1, 1, 1000)", 1, x.tell(false, 2, 1, 1, 1000));
        due("tell, one house", -1, x.tell(true, 1, 1, 0, 1));
        due("tell, from 3", -1, x.tell(true, 3, 1, 0, 1));
        due("tell, from -1", -1, x.tell(true, -1, 1, 0, 1));
        due("tell, to 3", -1, x.tell(true, 1, 3, 0, 0));
        due("tell, to -1", -1, x.tell(false, 1, -1, 0, 0));
        due("tell, kind 2", -1, x.tell(false, 1, 0, 2, 1001));
        due("tell, kind -1", -1, x.tell(false, 1, 0, -1, 1));
        due("tell, n 0", -4, x.tell(false, 1, 0, 0, 0));
        due("tell, n 1001", -6, x.tell(false, 1, 0, 0, 1001));
        due("count(4)", 2, x.count(4));
        for (int t = 2; t < 400; t++) {
            due("tell", t, x.tell(t % 2 == 0, 0, 1, 0, 5));
        }
        due("tell, no room", -6, x.tell(true, 0, 1, 0, 5));
        due("tell, n 0 and no room", -4, x.tell(true, 0, 1, 0, 0));
        due("telling(399, 4)", 5, x.telling(399, 4));
        due("telling(400, 4)", -9, x.telling(400, 4));
        due("count(4)", 400, x.count(4));
    }

    private static void drop() {
        promise = 8;
        CarrierPool x = pool(2, 1);
        both(x, 0, 1, 0, 4, 4);
        x.tell(true, 0, 1, 0, 6);
        due("drop(3)", -1, x.drop(3));
        due("drop(-1)", -1, x.drop(-1));
        due("drop(0)", 1, x.drop(0));
        due("drop(0)", -3, x.drop(0));
        due("telling(0, 6)", 2, x.telling(0, 6));
        due("telling(0, 7)", -9, x.telling(0, 7));
        due("count(5)", 2, x.count(5));
        due("pair()", 1, x.pair());
        due("pairOf(0, 0)", 2, x.pairOf(0, 0));
        due("drop(1), a paired one", -3, x.drop(1));
        due("count(13)", 2, x.count(13));
        due("count(11)", 2, x.count(11));
    }

    private static void rule() {
        promise = 9;
        int[] counted = {7, 4, 7, 4};
        for (int r = 0; r < 4; r++) {
            CarrierPool x = pool(2, 1);
            due("rule(" + r + ")", 0, x.rule(r));
            due("rule(4)", -2, x.rule(4));
            due("rule(-1)", -2, x.rule(-1));
            due("count(12)", 2, x.count(12));
            both(x, 0, 1, 0, 4, 7);
            x.pair();
            due("pairOf(0, 4) by rule " + r, counted[r], x.pairOf(0, 4));
            both(x, 0, 1, 0, 9, 2);
            due("rule(" + (3 - r) + ")", r, x.rule(3 - r));
            x.pair();
            due("pairOf(1, 4) by rule " + (3 - r), (3 - r) / 2 == 1 ? 9 : 2, x.pairOf(1, 4));
            due("pairOf(0, 4) stays", counted[r], x.pairOf(0, 4));
            due("account(1, 0, 0)", counted[r] + ((3 - r) / 2 == 1 ? 9 : 2), x.account(1, 0, 0));
        }
    }

    private static void pairDaysApart() {
        promise = 10;
        CarrierPool x = pool(2, 1);
        x.tell(true, 0, 1, 0, 5);
        x.days(4);
        x.tell(false, 0, 1, 0, 5);
        due("pair() of 4 days apart", 0, x.pair());
        x.tell(false, 1, 0, 0, 5);
        x.days(3);
        x.tell(true, 1, 0, 0, 5);
        due("pair() of 3 days apart", 1, x.pair());
        due("its day is the take's", 4, x.pairOf(0, 2));
        due("account(0, 0, 3)", 0, x.account(0, 0, 3));
        due("account(0, 0, 4)", 5, x.account(0, 0, 4));
        due("account(1, 0, 4)", -5, x.account(1, 0, 4));
        due("count(3)", 2, x.count(3));
        due("count(5)", 2, x.count(5));
    }

    private static void pairMostFirst() {
        promise = 10;
        CarrierPool x = pool(2, 1);
        x.tell(false, 0, 1, 0, 5);
        x.days(3);
        x.tell(true, 0, 1, 0, 5);
        x.tell(false, 0, 1, 0, 5);
        x.days(3);
        x.tell(true, 0, 1, 0, 5);
        due("pair(): two, though one would be nearer", 2, x.pair());
        due("telling(1, 7)", 0, x.telling(1, 7));
        due("pairOf(0, 1)", 0, x.pairOf(0, 1));
        due("pairOf(1, 0)", 3, x.pairOf(1, 0));
        due("pairOf(1, 1)", 2, x.pairOf(1, 1));
    }

    private static void pairLeastSum() {
        promise = 10;
        CarrierPool x = pool(2, 1);
        x.tell(false, 0, 1, 0, 5);
        x.days(1);
        x.tell(true, 0, 1, 0, 5);
        x.tell(false, 0, 1, 0, 5);
        due("pair()", 1, x.pair());
        due("the nearer take, not the first", 2, x.pairOf(0, 1));
        due("the first stays open", 0, x.telling(0, 6));
    }

    private static void pairTies() {
        promise = 10;
        CarrierPool x = pool(2, 1);
        x.tell(false, 0, 1, 0, 1);
        x.tell(true, 0, 1, 0, 1);
        x.days(1);
        x.tell(false, 0, 1, 0, 2);
        x.tell(true, 0, 1, 0, 2);
        x.tell(true, 0, 1, 0, 3);
        x.days(1);
        x.tell(false, 0, 1, 0, 3);
        x.tell(true, 0, 1, 0, 4);
        due("pair()", 3, x.pair());
        due("give 1", 0, x.telling(1, 7));
        due("its take", 0, x.pairOf(0, 1));
        due("give 3", 1, x.telling(3, 7));
        due("its take", 2, x.pairOf(1, 1));
        due("give 4 has none, give 6 is nearer", -9, x.telling(4, 7));
        due("give 6", 5, x.pairOf(2, 1));

        CarrierPool y = pool(2, 1);
        y.tell(true, 0, 1, 0, 1);
        y.tell(true, 0, 1, 0, 1);
        y.tell(false, 0, 1, 0, 1);
        due("pair()", 1, y.pair());
        due("a take comes ahead of none", 0, y.pairOf(0, 0));
        due("the later give stays open", 0, y.telling(1, 6));
    }

    private static void pairOrder() {
        promise = 10;
        CarrierPool x = pool(3, 2);
        both(x, 2, 0, 0, 1, 1);
        both(x, 0, 2, 0, 1, 1);
        both(x, 0, 1, 1, 1, 1);
        both(x, 0, 1, 0, 1, 1);
        due("pair()", 4, x.pair());
        due("first by from, to, kind", 6, x.pairOf(0, 0));
        due("then kind", 4, x.pairOf(1, 0));
        due("then to", 2, x.pairOf(2, 0));
        due("then from", 0, x.pairOf(3, 0));
    }

    private static void pairFirstEight() {
        promise = 10;
        CarrierPool x = pool(2, 1);
        for (int i = 0; i < 8; i++) {
            x.tell(true, 0, 1, 0, 5);
        }
        x.days(4);
        both(x, 0, 1, 0, 5, 5);
        due("pair(): the ninth give is not looked at", 0, x.pair());
        x.drop(0);
        due("pair(): now it is", 1, x.pair());
        due("pairOf(0, 0)", 8, x.pairOf(0, 0));
    }

    private static void pairTwentyFive() {
        promise = 10;
        CarrierPool x = pool(5, 1);
        for (int to = 1; to < 5; to++) {
            for (int i = 0; i < 8; i++) {
                both(x, 0, to, 0, 5, 5);
            }
        }
        due("pair()", 25, x.pair());
        due("count(3)", 50, x.count(3));
        due("count(5)", 14, x.count(5));
        due("account(4, 0, 0)", 5, x.account(4, 0, 0));
        due("pair()", 7, x.pair());
        due("count(6)", 32, x.count(6));
        due("count(5)", 0, x.count(5));
    }

    private static void judge() {
        promise = 11;
        CarrierPool x = pool(2, 1);
        both(x, 0, 1, 0, 4, 4);
        both(x, 0, 1, 0, 4, 7);
        x.days(1);
        x.pair();
        x.days(1);
        due("judge(2, 0)", -1, x.judge(2, 0));
        due("judge(-1, 0)", -1, x.judge(-1, 0));
        due("judge(0, -1), alike", -3, x.judge(0, -1));
        due("judge(1, -1)", -4, x.judge(1, -1));
        due("judge(1, 1001)", -6, x.judge(1, 1001));
        due("count(7)", 1, x.count(7));
        due("judge(1, 7)", 7, x.judge(1, 7));
        due("no entries of no difference", 4, x.count(3));
        due("pairOf(1, 5)", 1, x.pairOf(1, 5));
        due("count(7)", 0, x.count(7));
        due("judge(1, 1000)", 7, x.judge(1, 1000));
        due("count(3)", 6, x.count(3));
        due("account(0, 0, 0)", -1004, x.account(0, 0, 0));
        due("account(1, 0, 0)", 1004, x.account(1, 0, 0));
        due("judge(1, 0), again", 1000, x.judge(1, 0));
        due("account(1, 0, 0)", 4, x.account(1, 0, 0));
        due("pairOf(1, 4)", 0, x.pairOf(1, 4));
        due("pairOf(1, 3), still a quarrel", 1, x.pairOf(1, 3));
        x.judge(1, 4);
        due("pairOf(1, 3), judged as the give", 1, x.pairOf(1, 3));
        due("turns(1, 0)", 8, x.turns(1, 0));
    }

    private static void closedMonthEntries() {
        promise = 11;
        CarrierPool x = pool(2, 1);
        x.days(28);
        both(x, 0, 1, 0, 4, 7);
        x.pair();
        x.tell(false, 0, 1, 0, 3);
        x.days(3);
        x.tell(true, 0, 1, 0, 3);
        x.close();
        due("judge(0, 1)", 7, x.judge(0, 1));
        due("account(1, 0, 29)", 7, x.account(1, 0, 29));
        due("account(1, 0, 30)", 1, x.account(1, 0, 30));
        due("account(0, 0, 30)", -1, x.account(0, 0, 30));
        due("pairOf(0, 2), its own day", 28, x.pairOf(0, 2));
        promise = 10;
        due("pair() of a day of a closed month", 1, x.pair());
        due("pairOf(1, 2), its own day", 28, x.pairOf(1, 2));
        due("account(1, 0, 29)", 7, x.account(1, 0, 29));
        due("account(1, 0, 30)", 4, x.account(1, 0, 30));
    }

    private static void found() {
        promise = 12;
        CarrierPool x = pool(2, 2);
        x.buy(0, 0, 50);
        due("found(0, 0, 50)", 50, x.found(0, 0, 50));
        due("no entry of no difference", 1, x.count(3));
        due("lost(0, 0)", 0, x.lost(0, 0));
        due("found(0, 0, 30)", 50, x.found(0, 0, 30));
        due("count(3)", 2, x.count(3));
        due("account(0, 0, 0)", 30, x.account(0, 0, 0));
        due("lost(0, 0)", 20, x.lost(0, 0));
        x.days(2);
        due("found(0, 0, 100000)", 30, x.found(0, 0, 100000));
        due("account(0, 0, 1)", 30, x.account(0, 0, 1));
        due("account(0, 0, 2)", 100000, x.account(0, 0, 2));
        due("lost(0, 0)", -99950, x.lost(0, 0));
        due("found(0, 0, 0)", 100000, x.found(0, 0, 0));
        due("lost(0, 0)", 50, x.lost(0, 0));
        due("lost(0, 1)", 0, x.lost(0, 1));
        due("found(2, 0, -1)", REFUSED + 1, x.found(2, 0, -1));
        due("found(0, 2, -1)", REFUSED + 1, x.found(0, 2, -1));
        due("found(0, 0, -1)", REFUSED + 4, x.found(0, 0, -1));
        due("found(0, 0, 100001)", REFUSED + 6, x.found(0, 0, 100001));
        both(x, 1, 0, 0, 8, 8);
        x.pair();
        due("found(1, 0, 0) of an account below 0", -8, x.found(1, 0, 0));
        due("lost(1, 0)", -8, x.lost(1, 0));
        due("check(0)", true, x.check(0));
    }

    private static void account() {
        promise = 13;
        CarrierPool x = pool(2, 2);
        x.days(10);
        x.buy(1, 1, 3);
        due("account(1, 1, 9)", 0, x.account(1, 1, 9));
        due("account(1, 1, 10)", 3, x.account(1, 1, 10));
        due("account(1, 1, 599)", 3, x.account(1, 1, 599));
        due("account(0, 1, 599)", 0, x.account(0, 1, 599));
        due("account(1, 0, 599)", 0, x.account(1, 0, 599));
        due("account(2, 0, -1)", REFUSED + 1, x.account(2, 0, -1));
        due("account(-1, 0, 600)", REFUSED + 1, x.account(-1, 0, 600));
        due("account(0, 2, 0)", REFUSED + 1, x.account(0, 2, 0));
        due("account(0, 0, -1)", REFUSED + 4, x.account(0, 0, -1));
        due("account(0, 0, 600)", REFUSED + 6, x.account(0, 0, 600));
        both(x, 0, 1, 0, 9, 9);
        x.pair();
        due("account(0, 0, 10)", -9, x.account(0, 0, 10));
    }

    private static void lost() {
        promise = 14;
        CarrierPool x = pool(2, 2);
        x.buy(1, 0, 9);
        x.found(1, 0, 4);
        due("lost(1, 0)", 5, x.lost(1, 0));
        x.found(1, 0, 3);
        due("lost(1, 0)", 6, x.lost(1, 0));
        x.found(1, 1, 3);
        due("lost(1, 1)", -3, x.lost(1, 1));
        due("lost(0, 0)", 0, x.lost(0, 0));
        due("lost(2, 0)", REFUSED + 1, x.lost(2, 0));
        due("lost(0, 2)", REFUSED + 1, x.lost(0, 2));
        due("lost(-1, 0)", REFUSED + 1, x.lost(-1, 0));
        due("lost(0, -1)", REFUSED + 1, x.lost(0, -1));
        due("count(11)", 4, x.count(11));
    }

    private static void turns() {
        promise = 15;
        CarrierPool x = pool(3, 2);
        both(x, 0, 1, 0, 4, 4);
        both(x, 2, 1, 0, 5, 7);
        both(x, 0, 1, 1, 100, 100);
        both(x, 1, 0, 0, 30, 30);
        due("turns(1, 0) of none", 0, x.turns(1, 0));
        x.pair();
        due("turns(1, 0)", 11, x.turns(1, 0));
        due("turns(1, 1)", 100, x.turns(1, 1));
        due("turns(0, 0)", 30, x.turns(0, 0));
        due("turns(2, 0)", 0, x.turns(2, 0));
        x.judge(3, 1);
        due("turns(1, 0), as counted now", 5, x.turns(1, 0));
        due("turns(3, 0)", -1, x.turns(3, 0));
        due("turns(0, 2)", -1, x.turns(0, 2));
        due("turns(-1, -1)", -1, x.turns(-1, -1));
    }

    private static void share() {
        promise = 16;
        CarrierPool x = new CarrierPool();
        for (int h = 0; h < 4; h++) {
            x.house();
        }
        x.kind(10, 0);
        x.buy(0, 0, 100);
        x.found(0, 0, 99);
        due("share(1, 0) without turns", 0, x.share(1, 0));
        both(x, 0, 1, 0, 1, 1);
        both(x, 0, 2, 0, 1, 1);
        both(x, 0, 3, 0, 1, 1);
        x.pair();
        due("share(0, 0)", 0, x.share(0, 0));
        due("share(1, 0), the first of equal rests", 4, x.share(1, 0));
        due("share(2, 0)", 3, x.share(2, 0));
        due("share(3, 0)", 3, x.share(3, 0));
        x.found(0, 0, 95);
        both(x, 0, 3, 0, 4, 4);
        x.pair();
        due("share(1, 0), 2 and 6 of 7", 3, x.share(1, 0));
        due("share(2, 0), 2 and 6 of 7", 3, x.share(2, 0));
        due("share(3, 0), 14 and 2 of 7", 14, x.share(3, 0));
        x.found(1, 0, 100);
        due("share(3, 0) of a sum below 0", 0, x.share(3, 0));
        due("share(4, 0)", -1, x.share(4, 0));
        due("share(0, 1)", -1, x.share(0, 1));
        due("share(-1, 0)", -1, x.share(-1, 0));
    }

    private static void shareByRest() {
        promise = 16;
        CarrierPool x = new CarrierPool();
        x.house();
        x.house();
        x.house();
        x.kind(1, 0);
        x.kind(1000, 0);
        both(x, 0, 1, 0, 1, 1);
        both(x, 0, 2, 0, 2, 3);
        both(x, 0, 2, 1, 1000, 1000);
        x.pair();
        x.judge(1, 2);
        x.buy(0, 0, 13);
        x.found(0, 0, 0);
        due("lost(0, 0)", 10, x.lost(0, 0));
        due("share(1, 0), 3 and 1 of 3", 3, x.share(1, 0));
        due("share(2, 0), 6 and 2 of 3", 7, x.share(2, 0));
        x.judge(1, 0);
        due("share(2, 0), without turns of its own", 0, x.share(2, 0));
        due("share(1, 0), alone", 10, x.share(1, 0));
        for (int i = 0; i < 400; i++) {
            x.buy(1, 1, 1000);
        }
        x.found(1, 1, 0);
        due("share(2, 1), a large one", 400000000, x.share(2, 1));
    }

    private static void fees() {
        promise = 17;
        CarrierPool x = pool(2, 2);
        x.buy(0, 0, 5);
        x.buy(0, 1, 3);
        due("fees(0, 0)", 30 * (5 + 3 * 2), x.fees(0, 0));
        due("fees(0, 19)", 30 * (5 + 3 * 2), x.fees(0, 19));
        x.days(29);
        x.buy(0, 0, 7);
        due("fees(0, 0), the last day has more", 30 * 11 + 7, x.fees(0, 0));
        due("fees(0, 1)", 30 * 18, x.fees(0, 1));
        both(x, 1, 0, 0, 9, 9);
        x.pair();
        due("fees(1, 1) of an account below 0", 0, x.fees(1, 1));
        x.buy(1, 1, 2);
        due("fees(1, 1): kinds are not mixed", 30 * 2 * 2, x.fees(1, 1));
        due("fees(2, -1)", -1, x.fees(2, -1));
        due("fees(-1, 0)", -1, x.fees(-1, 0));
        due("fees(0, -1)", -4, x.fees(0, -1));
        due("fees(0, 20)", -6, x.fees(0, 20));
        CarrierPool y = new CarrierPool();
        y.house();
        y.kind(1, 100);
        y.found(0, 0, 100000);
        for (int i = 0; i < 500; i++) {
            y.buy(0, 0, 1000);
        }
        due("fees above an int", 600000L * 100 * 30, y.fees(0, 0));
    }

    private static void close() {
        promise = 18;
        CarrierPool x = pool(1, 1);
        due("close()", -3, x.close());
        x.days(29);
        due("close() on its last day", -3, x.close());
        x.days(1);
        due("close()", 0, x.close());
        due("close()", -3, x.close());
        due("count(8)", 1, x.count(8));
        x.days(569);
        for (int m = 1; m < 19; m++) {
            due("close()", m, x.close());
        }
        due("close() of the last month", -3, x.close());
        due("count(8)", 19, x.count(8));
        due("count(13)", 4, x.count(13));
        due("buy(0, 0, 1)", 1, x.buy(0, 0, 1));
        due("account(0, 0, 598)", 0, x.account(0, 0, 598));
    }

    private static void bill() {
        promise = 19;
        CarrierPool x = pool(2, 1);
        x.buy(0, 0, 5);
        due("bill(0, 0), not closed", -3, x.bill(0, 0));
        x.days(30);
        both(x, 0, 1, 0, 5, 5);
        x.pair();
        x.close();
        due("bill(0, 0)", 150, x.bill(0, 0));
        due("bill(1, 0)", 0, x.bill(1, 0));
        x.house();
        due("bill(2, 0) of a house that came later", 0, x.bill(2, 0));
        due("bill(3, -1)", -1, x.bill(3, -1));
        due("bill(0, -1)", -4, x.bill(0, -1));
        due("bill(0, 20)", -6, x.bill(0, 20));
        due("bill(0, 1)", -3, x.bill(0, 1));
        due("bill(0, 19)", -3, x.bill(0, 19));
        x.days(30);
        x.close();
        due("bill(1, 1)", 150, x.bill(1, 1));
        due("bill(0, 1)", 0, x.bill(0, 1));
        due("count(13)", 3, x.count(13));
    }

    private static void telling() {
        promise = 20;
        CarrierPool x = pool(3, 2);
        x.days(6);
        x.tell(false, 2, 1, 1, 42);
        int[] want = {0, 2, 1, 1, 42, 6, 0, -9};
        for (int what = 0; what < want.length; what++) {
            due("telling(0, " + what + ")", want[what], x.telling(0, what));
        }
        x.tell(true, 2, 1, 1, 42);
        x.pair();
        due("telling(1, 0)", 1, x.telling(1, 0));
        due("telling(1, 6)", 1, x.telling(1, 6));
        due("telling(1, 7)", 0, x.telling(1, 7));
        due("telling(0, 8)", -9, x.telling(0, 8));
        due("telling(0, -1)", -9, x.telling(0, -1));
        due("telling(2, 0)", -9, x.telling(2, 0));
        due("telling(-1, 0)", -9, x.telling(-1, 0));
        due("no refusals", 0, x.count(11) + x.count(12));
    }

    private static void pairOf() {
        promise = 21;
        CarrierPool x = pool(2, 1);
        x.days(3);
        x.tell(false, 0, 1, 0, 8);
        x.days(1);
        x.tell(true, 0, 1, 0, 6);
        x.pair();
        int[] want = {1, 0, 3, 1, 8, 0};
        for (int what = 0; what < want.length; what++) {
            due("pairOf(0, " + what + ")", want[what], x.pairOf(0, what));
        }
        x.judge(0, 8);
        due("pairOf(0, 5)", 1, x.pairOf(0, 5));
        due("pairOf(0, 6)", -9, x.pairOf(0, 6));
        due("pairOf(0, -1)", -9, x.pairOf(0, -1));
        due("pairOf(1, 0)", -9, x.pairOf(1, 0));
        due("pairOf(-1, 0)", -9, x.pairOf(-1, 0));
        due("no refusals", 0, x.count(11) + x.count(12));
    }

    private static void oweAndOwes() {
        promise = 22;
        CarrierPool x = pool(3, 2);
        due("owe(0, 1, 0, 99999)", 99999, x.owe(0, 1, 0, 99999));
        due("owe(0, 1, 0, 2)", -6, x.owe(0, 1, 0, 2));
        due("owe(0, 1, 0, 1)", 100000, x.owe(0, 1, 0, 1));
        due("owe(0, 1, 0, greatest)", -6, x.owe(0, 1, 0, Integer.MAX_VALUE));
        due("owe(0, 1, 1, 100000)", 100000, x.owe(0, 1, 1, 100000));
        due("owe(1, 0, 0, 7)", 7, x.owe(1, 0, 0, 7));
        due("owe(1, 1, 0, 0)", -1, x.owe(1, 1, 0, 0));
        due("owe(3, 1, 0, 1)", -1, x.owe(3, 1, 0, 1));
        due("owe(1, 3, 0, 1)", -1, x.owe(1, 3, 0, 1));
        due("owe(0, 1, 2, 0)", -1, x.owe(0, 1, 2, 0));
        due("owe(0, 1, 0, 0)", -4, x.owe(0, 1, 0, 0));
        promise = 23;
        due("owes(0, 1, 0)", 100000, x.owes(0, 1, 0));
        due("owes(1, 0, 0)", 7, x.owes(1, 0, 0));
        due("owes(1, 0, 1)", 0, x.owes(1, 0, 1));
        due("owes(1, 1, 0), itself", 0, x.owes(1, 1, 0));
        due("owes(3, 0, 0)", -1, x.owes(3, 0, 0));
        due("owes(0, -1, 0)", -1, x.owes(0, -1, 0));
        due("owes(0, 1, 2)", -1, x.owes(0, 1, 2));
        due("count(11)", 7, x.count(11));
    }

    private static void ring() {
        promise = 24;
        CarrierPool x = pool(6, 2);
        due("ring(0, 0) of none", -9, x.ring(0, 0));
        due("ring(2, 0)", -1, x.ring(2, 0));
        due("ring(-1, -1)", -1, x.ring(-1, -1));
        x.owe(5, 1, 0, 1);
        x.owe(1, 4, 0, 1);
        x.owe(4, 5, 0, 1);
        due("ring(0, 0)", 1, x.ring(0, 0));
        due("ring(0, 1)", 4, x.ring(0, 1));
        due("ring(0, 2)", 5, x.ring(0, 2));
        due("ring(0, 3)", -9, x.ring(0, 3));
        due("ring(0, -1)", -9, x.ring(0, -1));
        due("ring(1, 0)", -9, x.ring(1, 0));
        x.owe(1, 3, 0, 1);
        x.owe(3, 5, 0, 1);
        due("ring(0, 1), the lesser one", 3, x.ring(0, 1));
        x.owe(0, 1, 0, 1);
        x.owe(5, 0, 0, 1);
        due("ring(0, 0), no larger ring of a lesser house", 1, x.ring(0, 0));
        x.owe(5, 4, 0, 1);
        due("ring(0, 0), the fewest houses", 4, x.ring(0, 0));
        due("ring(0, 1)", 5, x.ring(0, 1));
        due("ring(0, 2)", -9, x.ring(0, 2));
        due("no refusals of -9", 2, x.count(11));
    }

    private static void off() {
        promise = 25;
        CarrierPool x = pool(3, 2);
        due("off(2)", -1, x.off(2));
        due("off(0) of none", 0, x.off(0));
        x.owe(0, 1, 0, 5);
        x.owe(1, 0, 0, 3);
        x.owe(1, 2, 0, 4);
        x.owe(2, 0, 0, 4);
        x.owe(1, 0, 1, 9);
        x.owe(0, 1, 1, 9);
        due("off(0)", 2, x.off(0));
        due("owes(0, 1, 0)", 0, x.owes(0, 1, 0));
        due("owes(1, 0, 0)", 0, x.owes(1, 0, 0));
        due("owes(1, 2, 0)", 2, x.owes(1, 2, 0));
        due("owes(2, 0, 0)", 2, x.owes(2, 0, 0));
        due("owes(1, 0, 1), another kind", 9, x.owes(1, 0, 1));
        due("off(1)", 1, x.off(1));
        due("owes(0, 1, 1)", 0, x.owes(0, 1, 1));
    }

    private static void wantAndWay() {
        promise = 26;
        CarrierPool x = pool(2, 0);
        due("want(0, 100, 0)", 1, x.want(0, 100, 0));
        due("want(1, 0, 100)", 1, x.want(1, 0, 100));
        due("want(2, -1, 0)", -1, x.want(2, -1, 0));
        due("want(-1, 0, 0)", -1, x.want(-1, 0, 0));
        due("want(0, -1, 0)", -4, x.want(0, -1, 0));
        due("want(0, 0, -1)", -4, x.want(0, 0, -1));
        due("want(0, 101, -1)", -4, x.want(0, 101, -1));
        due("want(0, 101, 0)", -6, x.want(0, 101, 0));
        due("want(0, 0, 101)", -6, x.want(0, 0, 101));
        promise = 27;
        due("way(0, 1, 1000)", 0, x.way(0, 1, 1000));
        due("way(1, 0, 3), the same both ways", 1000, x.way(1, 0, 3));
        due("way(0, 1, 3)", 3, x.way(0, 1, 3));
        due("way(0, 0, -1)", -1, x.way(0, 0, -1));
        due("way(0, 2, 1)", -1, x.way(0, 2, 1));
        due("way(-1, 0, 1)", -1, x.way(-1, 0, 1));
        due("way(0, 1, -1)", -4, x.way(0, 1, -1));
        due("way(0, 1, 1001)", -6, x.way(0, 1, 1001));
        promise = 28;
        due("plan()", 300, x.plan());
    }

    private static void plan() {
        promise = 28;
        CarrierPool x = pool(3, 0);
        due("plan() of nothing", 0, x.plan());
        x.way(0, 1, 10);
        x.way(0, 2, 1);
        x.way(1, 2, 1);
        x.want(0, 5, 0);
        x.want(1, 0, 5);
        due("plan(): one way each, none by way of another house", 50, x.plan());
        x.want(2, 3, 3);
        due("plan(): its own empties go on", 26, x.plan());
        x.want(2, 2, 4);
        due("plan(), not enough", -5, x.plan());
        due("count(15)", 1, x.count(15));
        x.want(0, 100, 100);
        x.want(1, 0, 0);
        x.want(2, 100, 0);
        due("plan(): own empties have the way 0", 0, x.plan());
        x.want(0, 0, 100);
        x.way(0, 2, 1000);
        due("plan()", 100000, x.plan());
    }

    private static void check() {
        promise = 29;
        CarrierPool x = pool(3, 2);
        due("check(0) of none", true, x.check(0));
        x.buy(0, 0, 50);
        x.scrap(0, 0, 8);
        both(x, 0, 1, 0, 5, 9);
        x.pair();
        x.judge(0, 2);
        x.found(1, 0, 1);
        x.found(2, 0, 77);
        due("check(0)", true, x.check(0));
        due("check(1)", true, x.check(1));
        due("check(2)", false, x.check(2));
        due("check(-1)", false, x.check(-1));
        due("no refusals", 0, x.count(11));
    }

    private static void count() {
        promise = 30;
        CarrierPool x = pool(3, 2);
        x.days(31);
        x.close();
        x.buy(0, 0, 4);
        both(x, 0, 1, 0, 3, 4);
        both(x, 0, 1, 1, 3, 4);
        both(x, 0, 2, 0, 3, 3);
        x.pair();
        x.tell(true, 1, 2, 0, 1);
        x.tell(true, 1, 2, 0, 1);
        x.drop(6);
        x.judge(0, 3);
        int[] want = {31, 3, 2, 9, 8, 1, 3, 1, 1};
        for (int what = 0; what < want.length; what++) {
            due("count(" + what + ")", want[what], x.count(what));
        }
        x.owe(0, 0, 0, 1);
        x.rule(9);
        x.rule(9);
        x.close();
        x.days(0);
        x.scrap(0, 0, 99);
        x.found(0, 0, 100001);
        int[] refused = {1, 2, 1, 1, 1, 1};
        for (int i = 0; i < refused.length; i++) {
            due("count(" + (11 + i) + ")", refused[i], x.count(11 + i));
        }
        int[] none = {-1, 9, 10, 17, Integer.MAX_VALUE, Integer.MIN_VALUE};
        for (int what : none) {
            due("count(" + what + ")", -9, x.count(what));
        }
    }

    public static void main(String[] args) {
        newObject();
        house();
        kind();
        days();
        buy();
        scrap();
        tell();
        drop();
        rule();
        pairDaysApart();
        pairMostFirst();
        pairLeastSum();
        pairTies();
        pairOrder();
        pairFirstEight();
        pairTwentyFive();
        judge();
        closedMonthEntries();
        found();
        account();
        lost();
        turns();
        share();
        shareByRest();
        fees();
        close();
        bill();
        telling();
        pairOf();
        oweAndOwes();
        ring();
        off();
        wantAndWay();
        plan();
        check();
        count();
        System.out.println("PromiseTests: " + asked + " answers asked, " + wrong + " wrong");
        if (wrong != 0) {
            System.exit(1);
        }
    }
}
