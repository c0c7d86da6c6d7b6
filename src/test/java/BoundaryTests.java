/**
 * For each sentence of the document that names a boundary a test of its own, named by that sentence:
 * at the bound, one below it and one above it. First "Terms", then promises 1 to 30. What a refused
 * call leaves unchanged is held in RefusalTests.
 */
public final class BoundaryTests {
    private static final int REFUSED = 1000000000;
    private static String sentence = "";
    private static int tests = 0;
    private static int wrong = 0;

    private static void test(String words, Runnable body) {
        sentence = words;
        tests++;
        body.run();
    }

    private static void due(String call, long want, long got) {
        if (got != want) {
            wrong++;
            System.out.println("[" + sentence + "] " + call + " answered " + got + ", due is " + want);
        }
    }

    private static CarrierPool pool(int houses, int kinds) {
        CarrierPool x = new CarrierPool();
        for (int h = 0; h < houses; h++) {
            x.house();
        }
        for (int k = 0; k < kinds; k++) {
            x.kind(1, 1);
        }
        return x;
    }

    private static CarrierPool poolOnDay(int day, int houses, int kinds) {
        CarrierPool x = pool(houses, kinds);
        if (day > 0) {
            x.days(day);
        }
        return x;
    }

    private static void both(CarrierPool x, int from, int to, int kind, int given, int taken) {
        x.tell(true, from, to, kind, given);
        x.tell(false, from, to, kind, taken);
    }

    // ==== Terms: days, months, houses, kinds

    private static void daysFrom0To599() {
        CarrierPool x = pool(1, 1);
        due("count(0)", 0, x.count(0));
        due("days(598)", 598, x.days(598));
        due("days(1)", 599, x.days(1));
        due("days(1)", -6, x.days(1));
        due("count(0)", 599, x.count(0));
        due("buy on the last day", 1, x.buy(0, 0, 1));
        due("account(0, 0, 598)", 0, x.account(0, 0, 598));
        due("account(0, 0, 599)", 1, x.account(0, 0, 599));
    }

    private static void monthIsThirtyDays() {
        int[] days = {28, 29, 30, 31, 58, 59, 60, 569, 570, 599};
        for (int day : days) {
            CarrierPool x = poolOnDay(day, 1, 1);
            x.buy(0, 0, 1);
            int month = day / 30;
            int rest = 30 - day % 30;
            due("fees of its month, day " + day, rest, x.fees(0, month));
            if (month > 0) {
                due("fees of the month ahead, day " + day, 0, x.fees(0, month - 1));
            }
            if (month < 19) {
                due("fees of the month after, day " + day, 30, x.fees(0, month + 1));
            }
        }
    }

    private static void tenHousesAtMost() {
        CarrierPool x = pool(0, 1);
        due("buy(0, 0, 1) without houses", REFUSED + 1, x.buy(0, 0, 1));
        for (int h = 0; h < 10; h++) {
            due("house()", h, x.house());
            due("buy for it", 1, x.buy(h, 0, 1));
            due("buy for the next", REFUSED + 1, x.buy(h + 1, 0, 1));
        }
        due("house()", -6, x.house());
        due("count(1)", 10, x.count(1));
    }

    private static void sixKindsAtMost() {
        CarrierPool x = pool(1, 0);
        due("buy(0, 0, 1) without kinds", REFUSED + 1, x.buy(0, 0, 1));
        for (int k = 0; k < 6; k++) {
            due("kind(1, 1)", k, x.kind(1, 1));
            due("buy of it", 1, x.buy(0, k, 1));
            due("buy of the next", REFUSED + 1, x.buy(0, k + 1, 1));
        }
        due("kind(1, 1)", -6, x.kind(1, 1));
        due("count(2)", 6, x.count(2));
    }

    private static void worthFrom1To1000() {
        int[] worths = {1, 2, 999, 1000};
        for (int worth : worths) {
            CarrierPool x = pool(2, 0);
            due("kind(" + worth + ", 0)", 0, x.kind(worth, 0));
            both(x, 0, 1, 0, 1, 1);
            x.pair();
            x.buy(1, 0, 3);
            x.found(1, 0, 0);
            due("share(1, 0) of 4 of worth " + worth, 4L * worth, x.share(1, 0));
        }
        due("kind(0, 0)", -4, pool(1, 0).kind(0, 0));
        due("kind(1001, 0)", -6, pool(1, 0).kind(1001, 0));
    }

    private static void feeFrom0To100() {
        int[] fees = {0, 1, 99, 100};
        for (int fee : fees) {
            CarrierPool x = pool(1, 0);
            due("kind(1, " + fee + ")", 0, x.kind(1, fee));
            x.buy(0, 0, 2);
            due("fees(0, 0) of fee " + fee, 60L * fee, x.fees(0, 0));
        }
        due("kind(1, -1)", -4, pool(1, 0).kind(1, -1));
        due("kind(1, 101)", -6, pool(1, 0).kind(1, 101));
    }

    // ==== Terms: entries and accounts

    // Judging makes two entries a call; beyond the 512 calls the answers are free, but 2000 entries
    // cannot be had within them.
    private static CarrierPool poolOfEntries(int many) {
        CarrierPool x = pool(2, 1);
        both(x, 0, 1, 0, 5, 6);
        x.pair();
        for (int i = 0; i < 1000 && x.count(3) + 2 <= many; i++) {
            x.judge(0, i % 2);
        }
        if (x.count(3) < many) {
            x.buy(0, 0, 1);
        }
        due("count(3) at first", many, x.count(3));
        return x;
    }

    private static void entries2000AtMost() {
        CarrierPool x = poolOfEntries(1998);
        due("buy of 1001 with two left", REFUSED + 6, x.buy(0, 0, 1001));
        int before = x.account(0, 0, 0);
        due("buy with two left", before + 1, x.buy(0, 0, 1));
        due("buy with one left", before + 2, x.buy(0, 0, 1));
        due("count(3)", 2000, x.count(3));
        due("buy with none left", REFUSED + 6, x.buy(0, 0, 1));
        due("count(3)", 2000, x.count(3));
        due("account(0, 0, 0)", before + 2, x.account(0, 0, 0));
        due("check(0)", 1, x.check(0) ? 1 : 0);
    }

    private static void entryMayBeBelow0() {
        CarrierPool x = pool(2, 1);
        both(x, 0, 1, 0, 1, 1);
        x.pair();
        due("account(0, 0, 0)", -1, x.account(0, 0, 0));
        due("account(1, 0, 0)", 1, x.account(1, 0, 0));
        both(x, 0, 1, 0, 1000, 1000);
        x.pair();
        due("account(0, 0, 0)", -1001, x.account(0, 0, 0));
    }

    private static void accountUpToADay() {
        CarrierPool x = poolOnDay(0, 2, 2);
        x.buy(0, 0, 1);
        x.days(10);
        x.buy(0, 0, 20);
        x.buy(0, 1, 700);
        x.buy(1, 0, 900);
        x.days(1);
        x.buy(0, 0, 300);
        due("account(0, 0, 0)", 1, x.account(0, 0, 0));
        due("account(0, 0, 9)", 1, x.account(0, 0, 9));
        due("account(0, 0, 10)", 21, x.account(0, 0, 10));
        due("account(0, 0, 11)", 321, x.account(0, 0, 11));
        due("account(0, 0, 12)", 321, x.account(0, 0, 12));
        due("account(0, 1, 9)", 0, x.account(0, 1, 9));
        due("account(0, 1, 10)", 700, x.account(0, 1, 10));
        due("account(1, 0, 10)", 900, x.account(1, 0, 10));
        due("account(1, 1, 599)", 0, x.account(1, 1, 599));
    }

    private static void monthsCloseInOrder() {
        CarrierPool x = poolOnDay(599, 1, 1);
        for (int m = 0; m < 19; m++) {
            due("bill ahead of closing", -3, x.bill(0, m));
            due("close()", m, x.close());
            due("bill after closing", 0, x.bill(0, m));
            due("bill of the next", -3, x.bill(0, m + 1));
        }
    }

    // A quarrel of a take on that day, judged one up after so many months were closed.
    private static void judgedLate(int takeDay, int closed, int dueDay) {
        CarrierPool x = poolOnDay(takeDay, 2, 1);
        both(x, 0, 1, 0, 5, 6);
        x.pair();
        x.days(95 - takeDay);
        for (int m = 0; m < closed; m++) {
            x.close();
        }
        x.judge(0, 7);
        String words = "day " + takeDay + ", " + closed + " closed: account ";
        due(words + "ahead", takeDay < dueDay ? 6 : 0, x.account(1, 0, dueDay - 1));
        due(words + "on it", 7, x.account(1, 0, dueDay));
        due(words + "of the giver", -7, x.account(0, 0, dueDay));
        due(words + "of the giver ahead", takeDay < dueDay ? -6 : 0, x.account(0, 0, dueDay - 1));
        due(words + "day of the pair", takeDay, x.pairOf(0, 2));
    }

    private static void entryOfAClosedMonth() {
        judgedLate(1, 0, 1);
        judgedLate(1, 1, 30);
        judgedLate(29, 0, 29);
        judgedLate(29, 1, 30);
        judgedLate(29, 2, 60);
        judgedLate(30, 1, 30);
        judgedLate(30, 2, 60);
        judgedLate(31, 1, 31);
        judgedLate(59, 1, 59);
        judgedLate(59, 2, 60);
        judgedLate(60, 2, 60);
        judgedLate(59, 3, 90);
        judgedLate(89, 3, 90);
    }

    private static void pairOfAClosedMonth() {
        for (int taken = 28; taken <= 30; taken++) {
            CarrierPool x = poolOnDay(taken, 2, 1);
            x.tell(false, 0, 1, 0, 4);
            x.days(31 - taken);
            x.tell(true, 0, 1, 0, 4);
            x.close();
            due("pair()", 1, x.pair());
            due("account(1, 0, 29), taken on day " + taken, 0, x.account(1, 0, 29));
            due("account(1, 0, 30), taken on day " + taken, 4, x.account(1, 0, 30));
            due("account(0, 0, 30), taken on day " + taken, -4, x.account(0, 0, 30));
        }
    }

    private static void buyingIsOfTheDay() {
        CarrierPool x = poolOnDay(7, 1, 1);
        due("buy(0, 0, 3)", 3, x.buy(0, 0, 3));
        due("account(0, 0, 6)", 0, x.account(0, 0, 6));
        due("account(0, 0, 7)", 3, x.account(0, 0, 7));
        due("count(3)", 1, x.count(3));
    }

    private static void breakingNoMoreThanTheAccount() {
        for (int n = 9; n <= 11; n++) {
            CarrierPool x = poolOnDay(3, 1, 1);
            x.buy(0, 0, 10);
            x.days(2);
            due("scrap(0, 0, " + n + ")", n <= 10 ? 10 - n : REFUSED + 5, x.scrap(0, 0, n));
            due("account(0, 0, 4)", 10, x.account(0, 0, 4));
            due("account(0, 0, 5)", n <= 10 ? 10 - n : 10, x.account(0, 0, 5));
            due("count(3)", n <= 10 ? 2 : 1, x.count(3));
            due("count(15)", n <= 10 ? 0 : 1, x.count(15));
        }
    }

    // ==== Terms: tellings and pairs

    private static void tellings400AtMost() {
        CarrierPool x = pool(2, 1);
        for (int t = 0; t < 399; t++) {
            x.tell(true, 0, 1, 0, 1);
        }
        due("count(4)", 399, x.count(4));
        due("tell", 399, x.tell(false, 0, 1, 0, 2));
        due("tell", -6, x.tell(false, 0, 1, 0, 2));
        due("count(4)", 400, x.count(4));
        x.drop(0);
        due("tell, though one is gone", -6, x.tell(false, 0, 1, 0, 2));
        due("pair()", 1, x.pair());
        due("pairOf(0, 1)", 399, x.pairOf(0, 1));
        due("tell, though two are paired", -6, x.tell(false, 0, 1, 0, 2));
    }

    private static void pairsOfAllTellings() {
        CarrierPool x = pool(10, 6);
        for (int i = 0; i < 200; i++) {
            both(x, 9, 8, 5, 5, 6);
        }
        for (int i = 0; i < 25; i++) {
            due("pair()", 8, x.pair());
        }
        due("pair()", 0, x.pair());
        due("count(5)", 0, x.count(5));
        due("count(6)", 200, x.count(6));
        due("count(7)", 200, x.count(7));
        due("pairOf(199, 0)", 398, x.pairOf(199, 0));
        due("pairOf(200, 0)", -9, x.pairOf(200, 0));
        due("judge(199, 5)", 6, x.judge(199, 5));
        due("judge(200, 5)", -1, x.judge(200, 5));
        due("turns(8, 5)", 1199, x.turns(8, 5));
    }

    private static void tellsFrom1To1000() {
        int[] many = {1, 2, 999, 1000};
        CarrierPool x = pool(2, 1);
        for (int i = 0; i < many.length; i++) {
            due("tell of " + many[i], i, x.tell(true, 0, 1, 0, many[i]));
            due("telling(" + i + ", 4)", many[i], x.telling(i, 4));
        }
        due("tell of 0", -4, x.tell(true, 0, 1, 0, 0));
        due("tell of 1001", -6, x.tell(true, 0, 1, 0, 1001));
    }

    private static void fromAHouseToAnother() {
        CarrierPool x = pool(3, 1);
        for (int from = 0; from < 3; from++) {
            for (int to = 0; to < 3; to++) {
                int want = from == to ? -1 : x.count(4);
                due("tell from " + from + " to " + to, want, x.tell(true, from, to, 0, 1));
            }
        }
    }

    private static void toldOnItsDay() {
        CarrierPool x = pool(2, 1);
        x.tell(true, 0, 1, 0, 1);
        x.days(599);
        x.tell(true, 0, 1, 0, 1);
        due("telling(0, 5)", 0, x.telling(0, 5));
        due("telling(1, 5)", 599, x.telling(1, 5));
    }

    private static void openThenPairedOrGone() {
        CarrierPool x = pool(2, 1);
        both(x, 0, 1, 0, 1, 1);
        x.tell(true, 0, 1, 0, 1);
        for (int t = 0; t < 3; t++) {
            due("telling(" + t + ", 6), open", 0, x.telling(t, 6));
            due("telling(" + t + ", 7), open", -9, x.telling(t, 7));
        }
        x.pair();
        x.drop(2);
        due("telling(0, 6)", 1, x.telling(0, 6));
        due("telling(1, 6)", 1, x.telling(1, 6));
        due("telling(2, 6)", 2, x.telling(2, 6));
        due("telling(2, 7)", -9, x.telling(2, 7));
        due("count(5)", 0, x.count(5));
    }

    private static void onlyOfTheSameFromToKind() {
        CarrierPool x = pool(3, 2);
        x.tell(true, 0, 1, 0, 5);
        x.tell(false, 1, 0, 0, 5);
        x.tell(false, 0, 2, 0, 5);
        x.tell(false, 2, 1, 0, 5);
        x.tell(false, 0, 1, 1, 5);
        x.tell(true, 0, 1, 0, 5);
        due("pair()", 0, x.pair());
        due("count(5)", 6, x.count(5));
        x.tell(false, 0, 1, 0, 5);
        due("pair()", 1, x.pair());
    }

    private static void byFromThenToThenKind() {
        CarrierPool x = pool(10, 6);
        int[][] groups = {{9, 8, 5}, {9, 8, 0}, {9, 0, 5}, {1, 9, 0}, {1, 0, 1}, {0, 9, 5}, {0, 1, 0}};
        for (int[] g : groups) {
            both(x, g[0], g[1], g[2], 5, 5);
        }
        due("pair()", groups.length, x.pair());
        int[] dueGives = {12, 10, 8, 6, 4, 2, 0};
        for (int p = 0; p < dueGives.length; p++) {
            due("pairOf(" + p + ", 0)", dueGives[p], x.pairOf(p, 0));
        }
    }

    // The first group pairs three straight on; the second one's first give and take have none.
    private static void eachGroupForItself() {
        CarrierPool x = pool(3, 1);
        x.tell(true, 0, 2, 0, 5);
        x.days(10);
        x.tell(false, 0, 2, 0, 5);
        x.days(10);
        for (int i = 0; i < 3; i++) {
            both(x, 0, 1, 0, 5, 5);
        }
        both(x, 0, 2, 0, 5, 5);
        due("pair()", 4, x.pair());
        due("pairOf(3, 0)", 8, x.pairOf(3, 0));
        due("pairOf(3, 1)", 9, x.pairOf(3, 1));
        due("telling(0, 6)", 0, x.telling(0, 6));
        due("telling(1, 6)", 0, x.telling(1, 6));
    }

    // So many tellings of one side out of reach, then one within reach of the other side's.
    private static CarrierPool farThenNear(boolean side, int far) {
        CarrierPool x = pool(2, 1);
        for (int i = 0; i < far; i++) {
            x.tell(side, 0, 1, 0, 5);
        }
        x.days(4);
        x.tell(side, 0, 1, 0, 5);
        x.tell(!side, 0, 1, 0, 5);
        return x;
    }

    private static void firstEightOfEach() {
        due("pair(), the 7th give", 1, farThenNear(true, 6).pair());
        due("pair(), the 8th give", 1, farThenNear(true, 7).pair());
        due("pair(), the 9th give", 0, farThenNear(true, 8).pair());
        due("pair(), the 7th take", 1, farThenNear(false, 6).pair());
        due("pair(), the 8th take", 1, farThenNear(false, 7).pair());
        due("pair(), the 9th take", 0, farThenNear(false, 8).pair());
    }

    private static void firstEightOfOpenOnes() {
        CarrierPool x = farThenNear(true, 8);
        x.drop(3);
        due("pair(), a gone one is not among the 8", 1, x.pair());
        CarrierPool y = farThenNear(false, 10);
        due("pair()", 0, y.pair());
        y.drop(9);
        y.drop(8);
        due("pair()", 0, y.pair());
        y.drop(0);
        due("pair()", 1, y.pair());
        CarrierPool z = pool(2, 1);
        for (int i = 0; i < 9; i++) {
            both(z, 0, 1, 0, 5, 5);
        }
        due("pair() of 9 and 9", 8, z.pair());
        due("telling(16, 6)", 0, z.telling(16, 6));
        due("telling(17, 6)", 0, z.telling(17, 6));
        due("pair() of the ninth", 1, z.pair());
    }

    private static void threeDaysApartAtMost() {
        for (int apart = 0; apart <= 5; apart++) {
            for (int side = 0; side < 2; side++) {
                CarrierPool x = poolOnDay(27, 2, 1);
                x.tell(side == 0, 0, 1, 0, 5);
                if (apart > 0) {
                    x.days(apart);
                }
                x.tell(side != 0, 0, 1, 0, 5);
                String words = apart + " apart, " + (side == 0 ? "give" : "take") + " first: pair()";
                due(words, apart <= 3 ? 1 : 0, x.pair());
                due(words + ", count(3)", apart <= 3 ? 2 : 0, x.count(3));
            }
        }
    }

    private static void oneWithOne() {
        CarrierPool x = pool(2, 1);
        x.tell(true, 0, 1, 0, 5);
        x.tell(true, 0, 1, 0, 5);
        x.tell(false, 0, 1, 0, 5);
        due("pair() of 2 gives, 1 take", 1, x.pair());
        due("count(5)", 1, x.count(5));
        due("pair()", 0, x.pair());
        CarrierPool y = pool(2, 1);
        y.tell(false, 0, 1, 0, 5);
        y.tell(false, 0, 1, 0, 5);
        y.tell(true, 0, 1, 0, 5);
        due("pair() of 1 give, 2 takes", 1, y.pair());
        due("count(5)", 1, y.count(5));
        CarrierPool z = pool(2, 1);
        z.tell(true, 0, 1, 0, 5);
        due("pair() of 1 give, no take", 0, z.pair());
        CarrierPool w = pool(2, 1);
        w.tell(false, 0, 1, 0, 5);
        due("pair() of no give, 1 take", 0, w.pair());
    }

    private static void theMostArePaired() {
        CarrierPool x = pool(2, 1);
        x.tell(false, 0, 1, 0, 1);
        x.days(3);
        x.tell(true, 0, 1, 0, 2);
        x.tell(false, 0, 1, 0, 3);
        x.days(3);
        x.tell(true, 0, 1, 0, 4);
        due("pair(): two of sum 6, not one of sum 0", 2, x.pair());
        due("pairOf(0, 1)", 0, x.pairOf(0, 1));
        due("pairOf(1, 1)", 2, x.pairOf(1, 1));
    }

    private static void eightOfSum24() {
        CarrierPool x = pool(2, 1);
        for (int i = 0; i < 8; i++) {
            x.tell(true, 0, 1, 0, 5);
        }
        x.days(3);
        for (int i = 0; i < 8; i++) {
            x.tell(false, 0, 1, 0, 5);
        }
        due("pair(): 8, each 3 apart", 8, x.pair());
        for (int p = 0; p < 8; p++) {
            due("pairOf(" + p + ", 0)", p, x.pairOf(p, 0));
            due("pairOf(" + p + ", 1)", 8 + p, x.pairOf(p, 1));
        }
    }

    private static void theSumOfDaysApartIsLeast() {
        CarrierPool x = pool(2, 1);
        x.tell(false, 0, 1, 0, 1);
        x.days(1);
        x.tell(true, 0, 1, 0, 2);
        x.tell(false, 0, 1, 0, 3);
        due("pair()", 1, x.pair());
        due("pairOf(0, 1), 0 days apart and not 1", 2, x.pairOf(0, 1));
        // Give 0 with take 3 and give 1 with take 2: 2 + 0; straight on it is 1 + 1: as much.
        CarrierPool y = pool(2, 1);
        y.tell(true, 0, 1, 0, 1);
        y.days(1);
        y.tell(true, 0, 1, 0, 1);
        y.tell(false, 0, 1, 0, 1);
        y.days(1);
        y.tell(false, 0, 1, 0, 1);
        due("pair()", 2, y.pair());
        due("pairOf(0, 1), of equal sums the lesser take", 2, y.pairOf(0, 1));
        due("pairOf(1, 1)", 3, y.pairOf(1, 1));
    }

    private static void theFirstGiveThatDiffers() {
        CarrierPool x = pool(2, 1);
        x.tell(false, 0, 1, 0, 9);
        x.tell(false, 0, 1, 0, 8);
        x.tell(false, 0, 1, 0, 7);
        x.tell(true, 0, 1, 0, 7);
        x.tell(true, 0, 1, 0, 8);
        due("pair(): by numbers, not by how many", 2, x.pair());
        due("pairOf(0, 1)", 0, x.pairOf(0, 1));
        due("pairOf(1, 1)", 1, x.pairOf(1, 1));
        due("telling(2, 6)", 0, x.telling(2, 6));
    }

    private static void aTakeComesAheadOfNone() {
        CarrierPool x = pool(2, 1);
        x.tell(true, 0, 1, 0, 1);
        x.days(2);
        x.tell(false, 0, 1, 0, 1);
        x.days(2);
        x.tell(true, 0, 1, 0, 1);
        due("pair()", 1, x.pair());
        due("pairOf(0, 0), both 2 apart", 0, x.pairOf(0, 0));
        due("telling(2, 6)", 0, x.telling(2, 6));
        // Here the later give is a day nearer, so the first one has none.
        CarrierPool y = pool(2, 1);
        y.tell(true, 0, 1, 0, 1);
        y.days(2);
        y.tell(false, 0, 1, 0, 1);
        y.days(1);
        y.tell(true, 0, 1, 0, 1);
        due("pair()", 1, y.pair());
        due("pairOf(0, 0), 1 apart", 2, y.pairOf(0, 0));
    }

    private static void pairsFrom0ByGives() {
        CarrierPool x = pool(2, 1);
        x.tell(true, 0, 1, 0, 1);
        x.days(3);
        x.tell(true, 0, 1, 0, 2);
        x.tell(false, 0, 1, 0, 2);
        x.tell(false, 0, 1, 0, 1);
        due("pair()", 2, x.pair());
        due("pairOf(0, 0)", 0, x.pairOf(0, 0));
        due("pairOf(0, 1)", 2, x.pairOf(0, 1));
        due("pairOf(1, 0)", 1, x.pairOf(1, 0));
        due("pairOf(1, 1)", 3, x.pairOf(1, 1));
        both(x, 0, 1, 0, 3, 3);
        due("pair()", 1, x.pair());
        due("telling(4, 7), the next number", 2, x.telling(4, 7));
    }

    private static void dayOfItsTake() {
        CarrierPool x = poolOnDay(10, 2, 1);
        x.tell(false, 0, 1, 0, 3);
        x.days(2);
        x.tell(true, 0, 1, 0, 3);
        x.tell(true, 1, 0, 0, 7);
        x.days(3);
        x.tell(false, 1, 0, 0, 7);
        due("pair()", 2, x.pair());
        due("pairOf(0, 2), the take came first", 10, x.pairOf(0, 2));
        due("pairOf(1, 2), the take came after", 15, x.pairOf(1, 2));
        due("account(1, 0, 9)", 0, x.account(1, 0, 9));
        due("account(1, 0, 10)", 3, x.account(1, 0, 10));
        due("account(1, 0, 14)", 3, x.account(1, 0, 14));
        due("account(1, 0, 15)", -4, x.account(1, 0, 15));
        due("account(0, 0, 10)", -3, x.account(0, 0, 10));
        due("account(0, 0, 15)", 4, x.account(0, 0, 15));
    }

    private static void alikeOrAQuarrel() {
        for (int taken = 6; taken <= 8; taken++) {
            CarrierPool x = pool(2, 1);
            both(x, 0, 1, 0, 7, taken);
            x.pair();
            due("pairOf(0, 3), 7 and " + taken, taken == 7 ? 0 : 1, x.pairOf(0, 3));
            due("count(7), 7 and " + taken, taken == 7 ? 0 : 1, x.count(7));
            due("judge(0, 7), 7 and " + taken, taken == 7 ? -3 : taken, x.judge(0, 7));
            due("pairOf(0, 3) after it", taken == 7 ? 0 : 1, x.pairOf(0, 3));
        }
    }

    private static void countedByTheRule(int given, int taken) {
        int[] want = {taken, Math.min(given, taken), Math.max(given, taken), given};
        for (int r = 0; r < 4; r++) {
            CarrierPool x = pool(2, 1);
            x.rule(r);
            both(x, 0, 1, 0, given, taken);
            x.pair();
            String words = "rule " + r + " of " + given + " and " + taken + ": ";
            due(words + "pairOf(0, 4)", want[r], x.pairOf(0, 4));
            due(words + "account(1, 0, 0)", want[r], x.account(1, 0, 0));
            due(words + "account(0, 0, 0)", -want[r], x.account(0, 0, 0));
            due(words + "turns(1, 0)", want[r], x.turns(1, 0));
            due(words + "count(3)", 2, x.count(3));
        }
    }

    private static void countedByEachRule() {
        countedByTheRule(1, 1000);
        countedByTheRule(1000, 1);
        countedByTheRule(4, 5);
        countedByTheRule(5, 4);
        countedByTheRule(5, 5);
    }

    private static void theRuleOfThen() {
        CarrierPool x = pool(2, 1);
        x.rule(3);
        both(x, 0, 1, 0, 4, 5);
        x.rule(0);
        x.pair();
        due("pairOf(0, 4): the rule as it is paired", 5, x.pairOf(0, 4));
        x.rule(1);
        due("pairOf(0, 4): not the rule of later", 5, x.pairOf(0, 4));
        due("turns(1, 0)", 5, x.turns(1, 0));
    }

    private static void judgingMakesTheDifference() {
        for (int n = 5; n <= 7; n++) {
            CarrierPool x = poolOnDay(2, 2, 1);
            both(x, 0, 1, 0, 9, 6);
            x.pair();
            x.days(5);
            due("judge(0, " + n + ")", 6, x.judge(0, n));
            due("count(3)", n == 6 ? 2 : 4, x.count(3));
            due("account(1, 0, 1)", 0, x.account(1, 0, 1));
            due("account(1, 0, 2)", n, x.account(1, 0, 2));
            due("account(0, 0, 2)", -n, x.account(0, 0, 2));
            due("pairOf(0, 4)", n, x.pairOf(0, 4));
            due("pairOf(0, 5)", 1, x.pairOf(0, 5));
            due("count(7)", 0, x.count(7));
        }
    }

    private static void judgedAgain() {
        CarrierPool x = pool(2, 1);
        both(x, 0, 1, 0, 9, 6);
        x.pair();
        due("judge(0, 9)", 6, x.judge(0, 9));
        due("judge(0, 9)", 9, x.judge(0, 9));
        due("count(3)", 4, x.count(3));
        due("judge(0, 8)", 9, x.judge(0, 8));
        due("count(3)", 6, x.count(3));
        due("account(1, 0, 0)", 8, x.account(1, 0, 0));
        due("account(0, 0, 0)", -8, x.account(0, 0, 0));
        due("turns(1, 0)", 8, x.turns(1, 0));
        due("count(7)", 0, x.count(7));
    }

    // ==== Terms: what is found and lost

    private static void findingAnotherNumber() {
        for (int n = 9; n <= 11; n++) {
            CarrierPool x = pool(2, 2);
            x.buy(0, 0, 10);
            x.days(4);
            due("found(0, 0, " + n + ")", 10, x.found(0, 0, n));
            due("count(3)", n == 10 ? 1 : 2, x.count(3));
            due("account(0, 0, 3)", 10, x.account(0, 0, 3));
            due("account(0, 0, 4)", n, x.account(0, 0, 4));
            due("lost(0, 0)", 10 - n, x.lost(0, 0));
            due("lost(1, 0)", 0, x.lost(1, 0));
            due("lost(0, 1)", 0, x.lost(0, 1));
            due("check(0)", 1, x.check(0) ? 1 : 0);
        }
    }

    private static void findingOfAnAccountBelow0() {
        CarrierPool x = pool(2, 1);
        both(x, 0, 1, 0, 3, 3);
        x.pair();
        due("found(0, 0, 0)", -3, x.found(0, 0, 0));
        due("lost(0, 0)", -3, x.lost(0, 0));
        due("account(0, 0, 0)", 0, x.account(0, 0, 0));
        due("count(3)", 3, x.count(3));
    }

    private static void sharesOfASumAbove0() {
        for (int sum = -1; sum <= 1; sum++) {
            CarrierPool x = pool(2, 0);
            x.kind(1000, 0);
            x.buy(0, 0, 10);
            x.buy(1, 0, 10);
            both(x, 0, 1, 0, 1, 1);
            x.pair();
            x.found(0, 0, 4);
            x.found(1, 0, 16 - sum);
            due("lost(0, 0)", 5, x.lost(0, 0));
            due("lost(1, 0)", -5 + sum, x.lost(1, 0));
            due("share(1, 0) of " + sum + " lost", sum > 0 ? 1000 : 0, x.share(1, 0));
            due("share(0, 0) of " + sum + " lost", 0, x.share(0, 0));
        }
    }

    // Turns of houses 1 .. ; then so many coins are to be paid.
    private static CarrierPool poolOfTurns(int coins, int... turns) {
        CarrierPool x = pool(turns.length + 1, 1);
        int all = 0;
        for (int i = 0; i < turns.length; i++) {
            if (turns[i] > 0) {
                both(x, 0, i + 1, 0, turns[i], turns[i]);
                all += turns[i];
            }
        }
        x.pair();
        x.buy(0, 0, all + coins);
        x.found(0, 0, 0);
        due("lost(0, 0)", coins, x.lost(0, 0));
        return x;
    }

    private static void dueShares(String words, CarrierPool x, int... want) {
        for (int h = 0; h < want.length; h++) {
            due(words + ": share(" + h + ", 0)", want[h], x.share(h, 0));
        }
    }

    private static void partsAreCut() {
        dueShares("6 of 1, 1, 1", poolOfTurns(6, 1, 1, 1), 0, 2, 2, 2);
        dueShares("6 of 1, 2, 3", poolOfTurns(6, 1, 2, 3), 0, 1, 2, 3);
        dueShares("600 of 1, 0, 2", poolOfTurns(600, 1, 0, 2), 0, 200, 0, 400);
        dueShares("1 of 7", poolOfTurns(1, 7), 0, 1);
    }

    private static void oneMoreToTheGreatestRest() {
        dueShares("5 of 1, 2", poolOfTurns(5, 1, 2), 0, 2, 3);
        dueShares("4 of 1, 2", poolOfTurns(4, 1, 2), 0, 1, 3);
        dueShares("1 of 1, 2, 3", poolOfTurns(1, 1, 2, 3), 0, 0, 0, 1);
        dueShares("2 of 1, 2, 3", poolOfTurns(2, 1, 2, 3), 0, 0, 1, 1);
        dueShares("5 of 3, 3, 1", poolOfTurns(5, 3, 3, 1), 0, 2, 2, 1);
    }

    private static void ofEqualRestsTheLesserNumber() {
        dueShares("1 of 1, 1, 1", poolOfTurns(1, 1, 1, 1), 0, 1, 0, 0);
        dueShares("2 of 1, 1, 1", poolOfTurns(2, 1, 1, 1), 0, 1, 1, 0);
        dueShares("3 of 1, 1, 1", poolOfTurns(3, 1, 1, 1), 0, 1, 1, 1);
        dueShares("4 of 1, 1, 1", poolOfTurns(4, 1, 1, 1), 0, 2, 1, 1);
        dueShares("1 of 0, 1, 1", poolOfTurns(1, 0, 1, 1), 0, 0, 1, 0);
    }

    private static void tillAllIsPaid() {
        for (int coins = 1; coins <= 40; coins++) {
            CarrierPool x = poolOfTurns(coins, 3, 1, 4, 1, 5, 9, 2, 6, 5);
            int sum = 0;
            for (int h = 0; h < 10; h++) {
                sum += x.share(h, 0);
            }
            due("all shares of " + coins, coins, sum);
        }
    }

    private static void theFirstHousePaysToo() {
        CarrierPool x = pool(3, 1);
        both(x, 1, 0, 0, 2, 2);
        both(x, 0, 2, 0, 1, 1);
        x.pair();
        x.buy(1, 0, 9);
        x.found(1, 0, 0);
        dueShares("7 of 2, 0, 1", x, 5, 0, 2);
        x.found(1, 0, 1);
        dueShares("6 of 2, 0, 1", x, 4, 0, 2);
        x.found(1, 0, 2);
        dueShares("5 of 2, 0, 1", x, 3, 0, 2);
    }

    private static void withoutTurnsNobodyPays() {
        CarrierPool x = pool(2, 1);
        x.buy(0, 0, 10);
        x.found(0, 0, 0);
        due("share(0, 0)", 0, x.share(0, 0));
        due("share(1, 0)", 0, x.share(1, 0));
        both(x, 0, 1, 0, 1, 2);
        x.pair();
        due("share(1, 0) with turns", 10, x.share(1, 0));
        x.judge(0, 0);
        due("share(1, 0), judged as none", 0, x.share(1, 0));
        x.judge(0, 1);
        due("share(1, 0), judged as one", 10, x.share(1, 0));
    }

    private static void turnsAsCountedNow() {
        CarrierPool x = pool(3, 2);
        both(x, 0, 1, 0, 1000, 999);
        both(x, 2, 1, 0, 1, 1);
        both(x, 0, 1, 1, 7, 7);
        due("turns(1, 0) of open ones", 0, x.turns(1, 0));
        x.pair();
        due("turns(1, 0)", 1000, x.turns(1, 0));
        due("turns(0, 0), the giver", 0, x.turns(0, 0));
        due("turns(1, 1)", 7, x.turns(1, 1));
        x.judge(0, 1000);
        due("turns(1, 0), judged", 1001, x.turns(1, 0));
        x.judge(0, 0);
        due("turns(1, 0), judged as none", 1, x.turns(1, 0));
        x.found(1, 0, 500);
        x.scrap(1, 0, 500);
        due("turns(1, 0), found and broken", 1, x.turns(1, 0));
    }

    // ==== Terms: fees and closing

    private static void feesOfAccountsAbove0() {
        CarrierPool x = pool(2, 2);
        due("fees(0, 0) of 0", 0, x.fees(0, 0));
        both(x, 0, 1, 0, 1, 1);
        x.pair();
        due("fees(0, 0) of -1", 0, x.fees(0, 0));
        due("fees(1, 0) of 1", 30, x.fees(1, 0));
        x.buy(0, 1, 1);
        due("fees(0, 0) of -1 and 1 of another kind", 30, x.fees(0, 0));
        x.days(10);
        x.buy(0, 0, 1);
        due("fees(0, 0), 0 from day 10 on", 30, x.fees(0, 0));
        x.buy(0, 0, 1);
        due("fees(0, 0), 1 from day 10 on", 50, x.fees(0, 0));
    }

    private static void feesOver30Days() {
        CarrierPool x = poolOnDay(30, 1, 1);
        x.buy(0, 0, 1);
        x.days(29);
        x.buy(0, 0, 100);
        x.days(1);
        x.buy(0, 0, 1000);
        due("fees(0, 0)", 0, x.fees(0, 0));
        due("fees(0, 1)", 30 + 100, x.fees(0, 1));
        due("fees(0, 2)", 30 * 1101, x.fees(0, 2));
        due("fees(0, 19)", 30 * 1101, x.fees(0, 19));
    }

    private static void feesOfEachHouseAndKind() {
        CarrierPool x = new CarrierPool();
        for (int h = 0; h < 10; h++) {
            x.house();
        }
        for (int k = 0; k < 6; k++) {
            x.kind(1, k + 1);
        }
        x.days(30);
        for (int h = 0; h < 10; h += 3) {
            for (int k = 0; k < 6; k++) {
                x.buy(h, k, 10 * h + k + 1);
            }
        }
        for (int h = 0; h < 10; h++) {
            int aDay = 0;
            for (int k = 0; k < 6; k++) {
                aDay += h % 3 == 0 ? (10 * h + k + 1) * (k + 1) : 0;
            }
            due("fees(" + h + ", 0)", 0, x.fees(h, 0));
            due("fees(" + h + ", 1)", 30 * aDay, x.fees(h, 1));
            due("fees(" + h + ", 2)", 30 * aDay, x.fees(h, 2));
        }
        x.days(30);
        due("close()", 0, x.close());
        due("close()", 1, x.close());
        for (int h = 0; h < 10; h++) {
            due("bill(" + h + ", 0)", 0, x.bill(h, 0));
            due("bill(" + h + ", 1)", x.fees(h, 1), x.bill(h, 1));
        }
    }

    private static void closingAMonthThatIsOver() {
        for (int m = 0; m < 3; m++) {
            CarrierPool x = poolOnDay(30 * m + 29, 1, 1);
            for (int before = 0; before < m; before++) {
                due("close()", before, x.close());
            }
            due("close() on its last day", -3, x.close());
            x.days(1);
            due("close() on the day after", m, x.close());
            due("close() of the next", -3, x.close());
            due("count(8)", m + 1, x.count(8));
        }
    }

    private static void feesAreKeptAndStay() {
        CarrierPool x = poolOnDay(29, 2, 1);
        both(x, 0, 1, 0, 5, 6);
        x.pair();
        x.days(1);
        x.close();
        due("bill(1, 0)", 6, x.bill(1, 0));
        x.judge(0, 1000);
        x.buy(1, 0, 1000);
        x.found(1, 0, 0);
        due("bill(1, 0), after all that", 6, x.bill(1, 0));
        due("fees(1, 0), as of now", 6, x.fees(1, 0));
        x.days(30);
        x.close();
        due("bill(1, 0), another month closed", 6, x.bill(1, 0));
        due("bill(1, 1)", 0, x.bill(1, 1));
    }

    // ==== Terms: debts

    private static void debts100000AtMost() {
        CarrierPool x = pool(2, 1);
        due("owes(0, 1, 0) at first", 0, x.owes(0, 1, 0));
        due("owe 99998", 99998, x.owe(0, 1, 0, 99998));
        due("owe 3", -6, x.owe(0, 1, 0, 3));
        due("owe 1", 99999, x.owe(0, 1, 0, 1));
        due("owe 2", -6, x.owe(0, 1, 0, 2));
        due("owe 1", 100000, x.owe(0, 1, 0, 1));
        due("owe 1", -6, x.owe(0, 1, 0, 1));
        due("owes(0, 1, 0)", 100000, x.owes(0, 1, 0));
        due("owe the other way", 100000, x.owe(1, 0, 0, 100000));
        due("off(0)", 1, x.off(0));
        due("owes(0, 1, 0), taken off", 0, x.owes(0, 1, 0));
        due("owe 100001", -6, x.owe(0, 1, 0, 100001));
        due("owe 100000", 100000, x.owe(0, 1, 0, 100000));
    }

    private static void aRingHas2HousesOrMore() {
        CarrierPool x = pool(10, 2);
        for (int h = 0; h < 9; h++) {
            x.owe(h, h + 1, 0, 1);
            due("ring(0, 0) of a chain", -9, x.ring(0, 0));
        }
        x.owe(9, 0, 1, 1);
        due("ring(0, 0), closed by another kind", -9, x.ring(0, 0));
        due("off(0)", 0, x.off(0));
        x.owe(9, 0, 0, 1);
        for (int h = 0; h < 10; h++) {
            due("ring(0, " + h + ") of 10", h, x.ring(0, h));
        }
        due("ring(0, 10)", -9, x.ring(0, 10));
        x.owe(9, 8, 0, 1);
        due("ring(0, 0) of 2", 8, x.ring(0, 0));
        due("ring(0, 1) of 2", 9, x.ring(0, 1));
        due("ring(0, 2) of 2", -9, x.ring(0, 2));
    }

    private static void owe(CarrierPool x, int kind, int... houses) {
        for (int i = 0; i < houses.length; i++) {
            int next = houses[(i + 1) % houses.length];
            if (x.owes(houses[i], next, kind) == 0) {
                x.owe(houses[i], next, kind, 1);
            }
        }
    }

    private static void dueRing(String words, CarrierPool x, int... houses) {
        for (int i = 0; i < houses.length; i++) {
            due(words + ": ring(0, " + i + ")", houses[i], x.ring(0, i));
        }
        due(words + ": ring(0, " + houses.length + ")", -9, x.ring(0, houses.length));
    }

    private static void eachOwesTheNextOne() {
        CarrierPool x = pool(5, 1);
        owe(x, 0, 1, 3);
        x.owe(3, 4, 0, 1);
        x.owe(1, 2, 0, 1);
        x.owe(0, 1, 0, 1);
        dueRing("others that are owed, or owe, are not in it", x, 1, 3);
        owe(x, 0, 0, 1);
        x.owe(1, 4, 0, 1);
        dueRing("nor here", x, 0, 1);
    }

    private static void theFirstRingHasTheFewest() {
        CarrierPool x = pool(10, 1);
        owe(x, 0, 0, 1, 2, 3);
        dueRing("one of 4", x, 0, 1, 2, 3);
        owe(x, 0, 7, 9, 8);
        dueRing("one of 3", x, 7, 9, 8);
        owe(x, 0, 6, 9);
        dueRing("one of 2", x, 6, 9);
        CarrierPool y = pool(10, 1);
        owe(y, 0, 0, 1, 2, 3);
        owe(y, 0, 0, 9, 8);
        dueRing("of one least house, the fewer come after", y, 0, 9, 8);
        CarrierPool z = pool(10, 1);
        owe(z, 0, 0, 1, 2);
        owe(z, 0, 0, 9, 8, 7);
        dueRing("of one least house, the fewer come ahead", z, 0, 1, 2);
        owe(z, 0, 0, 5, 6);
        dueRing("of one least house, as many", z, 0, 1, 2);
    }

    private static void ofSeveralTheLeastHouse() {
        CarrierPool x = pool(10, 1);
        owe(x, 0, 8, 7, 9);
        dueRing("least 7", x, 7, 9, 8);
        owe(x, 0, 6, 5, 4);
        dueRing("least 4", x, 4, 6, 5);
        owe(x, 0, 2, 0, 3);
        dueRing("least 0", x, 0, 3, 2);
        owe(x, 0, 1, 4, 7);
        dueRing("0 stays ahead of 1", x, 0, 3, 2);
    }

    private static void thenTheOthersInOrder() {
        CarrierPool x = pool(10, 1);
        owe(x, 0, 0, 8, 5, 9);
        dueRing("0 8 5 9", x, 0, 8, 5, 9);
        owe(x, 0, 0, 8, 5, 6);
        dueRing("0 8 5 6", x, 0, 8, 5, 6);
        owe(x, 0, 0, 8, 3, 7);
        dueRing("0 8 3 7", x, 0, 8, 3, 7);
        owe(x, 0, 0, 2, 4, 1);
        dueRing("0 2 4 1", x, 0, 2, 4, 1);
    }

    private static void lessByTheLeastOfThem() {
        CarrierPool x = pool(3, 1);
        x.owe(0, 1, 0, 100000);
        x.owe(1, 2, 0, 1);
        x.owe(2, 0, 0, 2);
        due("off(0)", 1, x.off(0));
        due("owes(0, 1, 0)", 99999, x.owes(0, 1, 0));
        due("owes(1, 2, 0)", 0, x.owes(1, 2, 0));
        due("owes(2, 0, 0)", 1, x.owes(2, 0, 0));
        due("off(0), no ring is left", 0, x.off(0));
    }

    private static void asLongAsThereIsARing() {
        CarrierPool x = pool(10, 1);
        for (int a = 0; a < 10; a++) {
            for (int b = 0; b < 10; b++) {
                if (a != b) {
                    x.owe(a, b, 0, 1);
                }
            }
        }
        due("off(0): each two", 45, x.off(0));
        int left = 0;
        for (int a = 0; a < 10; a++) {
            for (int b = 0; b < 10; b++) {
                left += x.owes(a, b, 0);
            }
        }
        due("what is still owed", 0, left);
        due("off(0)", 0, x.off(0));
    }

    // The pair of 0 and 1 goes first and takes off 3; the ring of three has 4 of 0 to 1 left then.
    private static void theFirstRingIsTakenOffFirst() {
        CarrierPool x = pool(3, 1);
        x.owe(0, 1, 0, 7);
        x.owe(1, 0, 0, 3);
        x.owe(1, 2, 0, 5);
        x.owe(2, 0, 0, 6);
        due("off(0)", 2, x.off(0));
        due("owes(0, 1, 0)", 0, x.owes(0, 1, 0));
        due("owes(1, 0, 0)", 0, x.owes(1, 0, 0));
        due("owes(1, 2, 0)", 1, x.owes(1, 2, 0));
        due("owes(2, 0, 0)", 2, x.owes(2, 0, 0));
    }

    // ==== Terms: carrying

    private static void emptiesAndWantsFrom0To100() {
        int[] many = {0, 1, 99, 100};
        for (int n : many) {
            CarrierPool x = pool(2, 0);
            x.way(0, 1, 1);
            due("want(0, " + n + ", 0)", 1, x.want(0, n, 0));
            due("want(1, 0, " + n + ")", 1, x.want(1, 0, n));
            due("plan() of " + n, n, x.plan());
        }
        CarrierPool x = pool(1, 0);
        due("plan(), 0 at first", 0, x.plan());
        due("want(0, -1, 0)", -4, x.want(0, -1, 0));
        due("want(0, 0, -1)", -4, x.want(0, 0, -1));
        due("want(0, 101, 0)", -6, x.want(0, 101, 0));
        due("want(0, 0, 101)", -6, x.want(0, 0, 101));
        due("want(0, 100, 100)", 1, x.want(0, 100, 100));
    }

    private static void waysFrom0To1000() {
        int[] ways = {1000, 999, 1, 0};
        CarrierPool x = pool(10, 0);
        x.want(3, 1, 0);
        x.want(7, 0, 1);
        due("plan(), 0 at first", 0, x.plan());
        int before = 0;
        for (int n : ways) {
            due("way(3, 7, " + n + ")", before, x.way(3, 7, n));
            due("way(7, 3, " + n + "), both ways", n, x.way(7, 3, n));
            due("plan()", n, x.plan());
            before = n;
        }
        due("way(3, 7, -1)", -4, x.way(3, 7, -1));
        due("way(3, 7, 1001)", -6, x.way(3, 7, 1001));
        due("way(7, 3, 5)", 0, x.way(7, 3, 5));
        due("plan(), the other way round", 5, x.plan());
    }

    private static void emptiesAsManyAsWantsOrMore() {
        for (int empties = 6; empties <= 8; empties++) {
            CarrierPool x = pool(3, 0);
            x.way(0, 2, 10);
            x.way(1, 2, 20);
            x.want(0, 3, 0);
            x.want(1, empties - 3, 0);
            x.want(2, 0, 7);
            due("plan() of " + empties + " for 7", empties < 7 ? -5 : 30 + 80, x.plan());
            due("count(15)", empties < 7 ? 1 : 0, x.count(15));
        }
    }

    private static void allWantsAreMetWhenFull() {
        CarrierPool x = pool(10, 0);
        for (int a = 0; a < 10; a++) {
            for (int b = a + 1; b < 10; b++) {
                x.way(a, b, 1000);
            }
            x.want(a, a < 5 ? 100 : 0, a < 5 ? 0 : 100);
        }
        due("plan() of 500 each 1000 far", 500000, x.plan());
        x.want(9, 0, 99);
        due("plan() of 499", 499000, x.plan());
        x.want(9, 0, 100);
        x.want(4, 99, 0);
        due("plan() of 499 for 500", -5, x.plan());
    }

    private static void ownEmptiesHaveTheWay0() {
        CarrierPool x = pool(2, 0);
        x.way(0, 1, 1000);
        x.want(0, 100, 100);
        x.want(1, 100, 100);
        due("plan() of own ones", 0, x.plan());
        x.want(1, 100, 99);
        due("plan(), one is left over", 0, x.plan());
        x.want(0, 99, 100);
        due("plan(), one is carried", 1000, x.plan());
    }

    private static void theLeastSum() {
        // The nearest first (0 to 2: 1) would leave 1 to 3: 100; crossed it is 2 + 3.
        CarrierPool x = pool(4, 0);
        x.way(0, 2, 1);
        x.way(0, 3, 2);
        x.way(1, 2, 3);
        x.way(1, 3, 100);
        x.want(0, 1, 0);
        x.want(1, 1, 0);
        x.want(2, 0, 1);
        x.want(3, 0, 1);
        due("plan()", 5, x.plan());
        x.way(1, 3, 4);
        due("plan(), as much both ways", 5, x.plan());
        x.way(1, 3, 3);
        due("plan(), straight on", 4, x.plan());
    }

    private static int seed = 1;

    private static int chance(int below) {
        seed = (seed * 1103515245 + 12345) & 0x7fffffff;
        return (seed >> 16) % below;
    }

    // Each want takes one of the empties that are not used yet; the house of each is told.
    private static int leastOf(int[][] ways, int[] wants, int[] empties, int want, int used) {
        if (want == wants.length) {
            return 0;
        }
        int least = Integer.MAX_VALUE;
        for (int e = 0; e < empties.length; e++) {
            if ((used >> e & 1) == 0) {
                int rest = leastOf(ways, wants, empties, want + 1, used | 1 << e);
                least = Math.min(least, ways[wants[want]][empties[e]] + rest);
            }
        }
        return least;
    }

    private static int[][] setWays(CarrierPool x, int houses, int below) {
        int[][] ways = new int[houses][houses];
        for (int a = 0; a < houses; a++) {
            for (int b = a + 1; b < houses; b++) {
                ways[a][b] = chance(below);
                ways[b][a] = ways[a][b];
                x.way(a, b, ways[a][b]);
            }
        }
        return ways;
    }

    private static int[] someHouses(int many, int houses) {
        int[] some = new int[many];
        for (int i = 0; i < many; i++) {
            some[i] = chance(houses);
        }
        return some;
    }

    private static int howMany(int[] some, int house) {
        int sum = 0;
        for (int one : some) {
            sum += one == house ? 1 : 0;
        }
        return sum;
    }

    private static void theLeastOfAllWays() {
        for (int round = 0; round < 400; round++) {
            int houses = 3 + round % 8;
            CarrierPool x = pool(houses, 0);
            int[][] ways = setWays(x, houses, round % 3 == 0 ? 3 : 20);
            int[] wants = someHouses(5, houses);
            int[] empties = someHouses(5 + round % 2, houses);
            for (int h = 0; h < houses; h++) {
                x.want(h, howMany(empties, h), howMany(wants, h));
            }
            due("plan() of round " + round, leastOf(ways, wants, empties, 0, 0), x.plan());
        }
    }

    // ==== Promises

    private static void newObject() {
        CarrierPool x = new CarrierPool();
        due("count(1)", 0, x.count(1));
        due("count(2)", 0, x.count(2));
        due("count(0)", 0, x.count(0));
        due("rule(1)", 0, x.rule(1));
        due("account(0, 0, 0)", REFUSED + 1, x.account(0, 0, 0));
        due("check(0)", 0, x.check(0) ? 1 : 0);
        CarrierPool y = new CarrierPool();
        due("another object's rule", 0, y.rule(0));
        due("another object's refusals", 0, y.count(11));
    }

    private static void daysByTheEdges() {
        due("days(1)", 1, new CarrierPool().days(1));
        due("days(599)", 599, new CarrierPool().days(599));
        due("days(600)", -6, new CarrierPool().days(600));
        due("days(0)", -4, new CarrierPool().days(0));
        CarrierPool x = poolOnDay(100, 0, 0);
        due("days(500)", -6, x.days(500));
        due("days(499)", 599, x.days(499));
    }

    private static void buyFrom1To1000() {
        int[] many = {1, 2, 999, 1000};
        for (int n : many) {
            CarrierPool x = pool(1, 1);
            due("buy(0, 0, " + n + ")", n, x.buy(0, 0, n));
            due("count(3)", 1, x.count(3));
        }
        CarrierPool x = pool(2, 1);
        due("buy(0, 0, 0)", REFUSED + 4, x.buy(0, 0, 0));
        due("buy(0, 0, 1001)", REFUSED + 6, x.buy(0, 0, 1001));
        both(x, 0, 1, 0, 5, 5);
        x.pair();
        due("buy(0, 0, 4), still below 0", -1, x.buy(0, 0, 4));
        due("buy(0, 0, 1)", 0, x.buy(0, 0, 1));
    }

    private static void scrapFrom1On() {
        CarrierPool x = pool(1, 1);
        x.buy(0, 0, 1000);
        x.buy(0, 0, 1000);
        due("scrap(0, 0, 0)", REFUSED + 4, x.scrap(0, 0, 0));
        due("scrap(0, 0, 1)", 1999, x.scrap(0, 0, 1));
        due("scrap(0, 0, 1001), not bound by 1000", 998, x.scrap(0, 0, 1001));
        due("scrap(0, 0, 999)", REFUSED + 5, x.scrap(0, 0, 999));
        due("scrap(0, 0, 998)", 0, x.scrap(0, 0, 998));
    }

    private static void scrapWithEntriesLeft() {
        CarrierPool x = poolOfEntries(1999);
        int before = x.account(1, 0, 0);
        x.judge(0, 1000);
        due("account(1, 0, 0), not judged", before, x.account(1, 0, 0));
        due("found(1, 0, 9) with one left", before, x.found(1, 0, 9));
        due("scrap(1, 0, 1) with none left", REFUSED + 6, x.scrap(1, 0, 1));
        due("scrap(1, 0, 10), more than there are", REFUSED + 5, x.scrap(1, 0, 10));
        CarrierPool y = poolOfEntries(1998);
        y.buy(1, 0, 9);
        before = y.account(1, 0, 0);
        due("scrap(1, 0, 9) with one left", before - 9, y.scrap(1, 0, 9));
        due("count(3)", 2000, y.count(3));
    }

    private static void dropAnOpenOne() {
        CarrierPool x = pool(2, 1);
        x.tell(true, 0, 1, 0, 1);
        x.tell(false, 0, 1, 0, 1);
        due("drop(-1)", -1, x.drop(-1));
        due("drop(2)", -1, x.drop(2));
        due("drop(1)", 1, x.drop(1));
        due("drop(1)", -3, x.drop(1));
        due("pair(), the take is gone", 0, x.pair());
        due("drop(0)", 1, x.drop(0));
        due("count(4)", 2, x.count(4));
        due("count(5)", 0, x.count(5));
    }

    private static void rulesFrom0To3() {
        CarrierPool x = new CarrierPool();
        due("rule(-1)", -2, x.rule(-1));
        due("rule(0)", 0, x.rule(0));
        due("rule(3)", 0, x.rule(3));
        due("rule(4)", -2, x.rule(4));
        due("rule(2)", 3, x.rule(2));
        due("rule(1)", 2, x.rule(1));
        due("rule(1)", 1, x.rule(1));
        due("count(12)", 2, x.count(12));
    }

    // 8 pairs to each of three houses and so many to the fourth.
    private static CarrierPool poolToPair(int many) {
        CarrierPool x = pool(5, 1);
        for (int i = 0; i < many; i++) {
            both(x, 0, 1 + i / 8, 0, 5, 5 + i % 2);
        }
        return x;
    }

    private static void asSoonAs25Came() {
        for (int many = 24; many <= 27; many++) {
            CarrierPool x = poolToPair(many);
            int first = Math.min(many, 25);
            due("pair() of " + many, first, x.pair());
            due("count(6)", first, x.count(6));
            due("count(5), they stay open", 2 * (many - first), x.count(5));
            due("count(3)", 2 * first, x.count(3));
            due("pair(), the others", many - first, x.pair());
            due("count(6)", many, x.count(6));
            due("count(5)", 0, x.count(5));
            due("count(3)", 2 * many, x.count(3));
        }
    }

    private static void the25thEndsAGroup() {
        CarrierPool x = pool(6, 1);
        for (int i = 0; i < 24; i++) {
            both(x, 0, 1 + i / 8, 0, 5, 5);
        }
        both(x, 1, 0, 0, 6, 6);
        both(x, 1, 2, 0, 7, 7);
        due("pair()", 25, x.pair());
        due("account(0, 0, 0)", -120 + 6, x.account(0, 0, 0));
        due("account(2, 0, 0), the next group stays open", 40, x.account(2, 0, 0));
        due("telling(50, 6)", 0, x.telling(50, 6));
        due("pair()", 1, x.pair());
    }

    private static void pairAt1900Entries() {
        for (int many = 1899; many <= 1901; many++) {
            CarrierPool x = poolOfEntries(many);
            both(x, 1, 0, 0, 5, 5);
            due("pair() at " + many, many <= 1900 ? 1 : -6, x.pair());
            due("count(6)", many <= 1900 ? 2 : 1, x.count(6));
            due("count(3)", many <= 1900 ? many + 2 : many, x.count(3));
            due("count(5)", many <= 1900 ? 0 : 2, x.count(5));
            due("count(16)", many <= 1900 ? 0 : 1, x.count(16));
        }
    }

    private static void judgeFrom0To1000() {
        int[] many = {0, 1, 999, 1000};
        for (int n : many) {
            CarrierPool x = pool(2, 1);
            both(x, 0, 1, 0, 3, 4);
            x.pair();
            due("judge(0, " + n + ")", 4, x.judge(0, n));
            due("account(1, 0, 0)", n, x.account(1, 0, 0));
            due("account(0, 0, 0)", -n, x.account(0, 0, 0));
        }
        CarrierPool x = pool(2, 1);
        both(x, 0, 1, 0, 3, 4);
        x.pair();
        due("judge(0, -1)", -4, x.judge(0, -1));
        due("judge(0, 1001)", -6, x.judge(0, 1001));
        due("judge(-1, 1)", -1, x.judge(-1, 1));
        due("judge(1, 1)", -1, x.judge(1, 1));
        due("pairOf(0, 5)", 0, x.pairOf(0, 5));
    }

    private static void judgeWithTwoEntriesLeft() {
        for (int many = 1997; many <= 2000; many++) {
            CarrierPool x = poolOfEntries(many);
            int before = x.pairOf(0, 4);
            due("judge(0, 500) at " + many, many <= 1998 ? before : -6, x.judge(0, 500));
            due("count(3)", many <= 1998 ? many + 2 : many, x.count(3));
            due("pairOf(0, 4)", many <= 1998 ? 500 : before, x.pairOf(0, 4));
        }
    }

    private static void foundFrom0To100000() {
        int[] many = {0, 1, 99999, 100000};
        for (int n : many) {
            CarrierPool x = pool(1, 1);
            x.buy(0, 0, 7);
            due("found(0, 0, " + n + ")", 7, x.found(0, 0, n));
            due("account(0, 0, 0)", n, x.account(0, 0, 0));
            due("lost(0, 0)", 7 - n, x.lost(0, 0));
        }
        CarrierPool x = pool(1, 1);
        due("found(0, 0, -1)", REFUSED + 4, x.found(0, 0, -1));
        due("found(0, 0, 100001)", REFUSED + 6, x.found(0, 0, 100001));
        due("lost(0, 0)", 0, x.lost(0, 0));
    }

    private static void foundWithEntriesLeft() {
        CarrierPool x = poolOfEntries(1999);
        int before = x.account(0, 0, 0);
        due("found(0, 0, 77) with one left", before, x.found(0, 0, 77));
        due("count(3)", 2000, x.count(3));
        due("found(0, 0, 78) with none left", REFUSED + 6, x.found(0, 0, 78));
        due("account(0, 0, 0)", 77, x.account(0, 0, 0));
        due("check(0)", 1, x.check(0) ? 1 : 0);
    }

    private static void accountFromDay0To599() {
        CarrierPool x = pool(1, 1);
        x.buy(0, 0, 2);
        x.days(5);
        x.buy(0, 0, 3);
        due("account(0, 0, -1)", REFUSED + 4, x.account(0, 0, -1));
        due("account(0, 0, 0)", 2, x.account(0, 0, 0));
        due("account(0, 0, 6), to come", 5, x.account(0, 0, 6));
        due("account(0, 0, 599), to come", 5, x.account(0, 0, 599));
        due("account(0, 0, 600)", REFUSED + 6, x.account(0, 0, 600));
    }

    private static void lostMayBeBelow0() {
        CarrierPool x = pool(2, 1);
        due("lost(0, 0) at first", 0, x.lost(0, 0));
        x.found(0, 0, 1);
        due("lost(0, 0)", -1, x.lost(0, 0));
        x.found(0, 0, 0);
        due("lost(0, 0)", 0, x.lost(0, 0));
        x.buy(0, 0, 1);
        x.found(0, 0, 0);
        due("lost(0, 0)", 1, x.lost(0, 0));
        due("lost(1, 0)", 0, x.lost(1, 0));
    }

    private static void feesOfMonths0To19() {
        CarrierPool x = pool(1, 1);
        x.buy(0, 0, 1);
        due("fees(0, -1)", -4, x.fees(0, -1));
        due("fees(0, 0)", 30, x.fees(0, 0));
        due("fees(0, 19)", 30, x.fees(0, 19));
        due("fees(0, 20)", -6, x.fees(0, 20));
        x.days(30);
        x.close();
        due("fees(0, 0), closed", 30, x.fees(0, 0));
        due("fees(0, 1), not closed", 30, x.fees(0, 1));
        due("fees(1, 0)", -1, x.fees(1, 0));
    }

    private static void feesAboveAnInt() {
        CarrierPool x = pool(1, 0);
        x.kind(1, 100);
        x.kind(1, 100);
        for (int k = 0; k < 2; k++) {
            x.found(0, k, 100000);
            for (int i = 0; i < 240; i++) {
                x.buy(0, k, 1000);
            }
        }
        due("fees(0, 0)", 2L * 340000 * 100 * 30, x.fees(0, 0));
        x.days(30);
        x.close();
        due("bill(0, 0)", 2L * 340000 * 100 * 30, x.bill(0, 0));
    }

    private static void closeNever20() {
        CarrierPool x = poolOnDay(599, 1, 1);
        for (int m = 0; m < 19; m++) {
            due("close()", m, x.close());
        }
        due("close(): month 19 is not over", -3, x.close());
        due("count(8)", 19, x.count(8));
        due("buy(0, 0, 1) in month 19", 1, x.buy(0, 0, 1));
        due("bill(0, 18)", 0, x.bill(0, 18));
        due("bill(0, 19)", -3, x.bill(0, 19));
    }

    private static void billOfAHouseThatCameLater() {
        CarrierPool x = pool(1, 1);
        x.buy(0, 0, 2);
        x.days(60);
        x.close();
        due("house()", 1, x.house());
        due("bill(1, 0)", 0, x.bill(1, 0));
        due("bill(0, 0)", 60, x.bill(0, 0));
        x.buy(1, 0, 3);
        x.close();
        due("bill(1, 1)", 0, x.bill(1, 1));
        due("bill(2, 0)", -1, x.bill(2, 0));
        due("bill(0, -1)", -4, x.bill(0, -1));
        due("bill(0, 20)", -6, x.bill(0, 20));
        due("bill(0, 2)", -3, x.bill(0, 2));
    }

    private static void tellingWhats0To7() {
        CarrierPool x = poolOnDay(4, 3, 2);
        x.tell(true, 2, 0, 1, 6);
        int[] want = {-9, 1, 2, 0, 1, 6, 4, 0, -9, -9};
        for (int what = -1; what <= 8; what++) {
            due("telling(0, " + what + ")", want[what + 1], x.telling(0, what));
        }
        due("telling(-1, 0)", -9, x.telling(-1, 0));
        due("telling(1, 0)", -9, x.telling(1, 0));
        x.tell(false, 2, 0, 1, 6);
        due("telling(1, 0)", 0, x.telling(1, 0));
        x.pair();
        due("telling(0, 7)", 0, x.telling(0, 7));
        due("telling(1, 7)", 0, x.telling(1, 7));
    }

    private static void pairOfWhats0To5() {
        CarrierPool x = poolOnDay(4, 2, 1);
        due("pairOf(0, 0) of none", -9, x.pairOf(0, 0));
        both(x, 0, 1, 0, 6, 8);
        due("pairOf(0, 0), not paired yet", -9, x.pairOf(0, 0));
        x.pair();
        int[] want = {-9, 0, 1, 4, 1, 8, 0, -9};
        for (int what = -1; what <= 6; what++) {
            due("pairOf(0, " + what + ")", want[what + 1], x.pairOf(0, what));
        }
        due("pairOf(-1, 0)", -9, x.pairOf(-1, 0));
        due("pairOf(1, 0)", -9, x.pairOf(1, 0));
        x.judge(0, 8);
        due("pairOf(0, 5), judged as it was", 1, x.pairOf(0, 5));
    }

    private static void oweFrom1On() {
        CarrierPool x = pool(2, 1);
        due("owe(0, 1, 0, 0)", -4, x.owe(0, 1, 0, 0));
        due("owe(0, 1, 0, 1)", 1, x.owe(0, 1, 0, 1));
        due("owe(0, 1, 0, 2)", 3, x.owe(0, 1, 0, 2));
        due("owe(0, 0, 0, 1), itself", -1, x.owe(0, 0, 0, 1));
        due("owe(0, 1, 0, 99998)", -6, x.owe(0, 1, 0, 99998));
        due("owe(0, 1, 0, 99997)", 100000, x.owe(0, 1, 0, 99997));
    }

    private static void owesItself() {
        CarrierPool x = pool(2, 1);
        due("owes(1, 1, 0)", 0, x.owes(1, 1, 0));
        due("count(11)", 0, x.count(11));
        due("owes(2, 2, 0)", -1, x.owes(2, 2, 0));
        due("owes(1, 1, 1)", -1, x.owes(1, 1, 1));
        due("count(11)", 2, x.count(11));
    }

    private static void ringHasNotSoMany() {
        CarrierPool x = pool(3, 1);
        due("ring(0, 0), none", -9, x.ring(0, 0));
        owe(x, 0, 0, 2, 1);
        due("ring(0, -1)", -9, x.ring(0, -1));
        due("ring(0, 0)", 0, x.ring(0, 0));
        due("ring(0, 2)", 1, x.ring(0, 2));
        due("ring(0, 3)", -9, x.ring(0, 3));
        due("ring(1, 0)", -1, x.ring(1, 0));
        due("ring(-1, 0)", -1, x.ring(-1, 0));
    }

    private static void planWithoutEmpties() {
        CarrierPool x = new CarrierPool();
        due("plan() without houses", 0, x.plan());
        x.house();
        due("plan() without wants", 0, x.plan());
        x.want(0, 0, 1);
        due("plan()", -5, x.plan());
        x.want(0, 1, 1);
        due("plan()", 0, x.plan());
        x.want(0, 1, 0);
        due("plan() without wants", 0, x.plan());
        due("count(15)", 1, x.count(15));
    }

    private static void checkOfAKind() {
        CarrierPool x = pool(2, 1);
        due("check(-1)", 0, x.check(-1) ? 1 : 0);
        due("check(0)", 1, x.check(0) ? 1 : 0);
        due("check(1)", 0, x.check(1) ? 1 : 0);
        x.kind(1, 1);
        due("check(1)", 1, x.check(1) ? 1 : 0);
        x.found(0, 1, 100000);
        x.buy(0, 0, 10);
        x.scrap(0, 0, 3);
        x.found(0, 0, 0);
        both(x, 0, 1, 0, 4, 5);
        x.pair();
        x.days(31);
        x.close();
        x.judge(0, 1000);
        due("check(0), entries of all days", 1, x.check(0) ? 1 : 0);
        due("check(1)", 1, x.check(1) ? 1 : 0);
        due("count(11)", 0, x.count(11));
    }

    private static void countsByNumber() {
        CarrierPool x = poolOnDay(31, 4, 2);
        x.close();
        both(x, 0, 1, 0, 3, 4);
        both(x, 0, 2, 0, 3, 4);
        both(x, 0, 3, 0, 3, 3);
        x.pair();
        x.judge(0, 4);
        x.tell(true, 0, 1, 0, 1);
        x.tell(true, 0, 1, 0, 1);
        x.tell(true, 0, 1, 0, 1);
        x.drop(7);
        int[] want = {-9, 31, 4, 2, 6, 9, 2, 3, 1, 1, -9, -9, 0, 0, 0, 0, 0, 0, -9, -9};
        for (int what = -1; what <= 18; what++) {
            due("count(" + what + ")", want[what + 1], x.count(what));
        }
    }

    private static void refusalsByNumber() {
        CarrierPool x = pool(1, 1);
        Runnable[] refusals = {
            () -> x.turns(1, 0), () -> x.rule(4), () -> x.close(), () -> x.days(0),
            () -> x.scrap(0, 0, 1), () -> x.buy(0, 0, 1001)
        };
        for (int r = 0; r < refusals.length; r++) {
            for (int times = 0; times <= r; times++) {
                due("count(" + (11 + r) + ")", times, x.count(11 + r));
                refusals[r].run();
            }
        }
        for (int r = 0; r < refusals.length; r++) {
            due("count(" + (11 + r) + ")", r + 1, x.count(11 + r));
        }
    }

    private static void terms() {
        test("Terms: DAYS go on from 0; 600 at most", BoundaryTests::daysFrom0To599);
        test("Terms: A MONTH is 30 DAYS: DAY / 30", BoundaryTests::monthIsThirtyDays);
        test("Terms: HOUSES from 0 on, 10 at most", BoundaryTests::tenHousesAtMost);
        test("Terms: KINDS from 0 on, 6 at most", BoundaryTests::sixKindsAtMost);
        test("Terms: a WORTH (1 .. 1000)", BoundaryTests::worthFrom1To1000);
        test("Terms: a FEE (0 .. 100)", BoundaryTests::feeFrom0To100);
        test("Terms: ENTRIES (2000 at most)", BoundaryTests::entries2000AtMost);
        test("Terms: ENTRIES: a number that may be below 0", BoundaryTests::entryMayBeBelow0);
        test("Terms: the sum of ENTRIES of DAYS up to that one", BoundaryTests::accountUpToADay);
        test("Terms: a MONTH may be CLOSED, in order from 0 on", BoundaryTests::monthsCloseInOrder);
        test("Terms: an ENTRY for a DAY of a CLOSED MONTH", BoundaryTests::entryOfAClosedMonth);
        test("Terms: a PAIR of a DAY of a CLOSED MONTH", BoundaryTests::pairOfAClosedMonth);
        test("Terms: BUYING is an ENTRY of the DAY", BoundaryTests::buyingIsOfTheDay);
        test("Terms: BREAKING no more than the ACCOUNT", BoundaryTests::breakingNoMoreThanTheAccount);
        test("Terms: TELLINGS (400 at most)", BoundaryTests::tellings400AtMost);
        test("Terms: TELLINGS (400 at most), all PAIRED", BoundaryTests::pairsOfAllTellings);
        test("Terms: TELLINGS: how many (1 .. 1000)", BoundaryTests::tellsFrom1To1000);
        test("Terms: from a HOUSE to another one", BoundaryTests::fromAHouseToAnother);
        test("Terms: the DAY on which it was told", BoundaryTests::toldOnItsDay);
        test("Terms: OPEN (at first), PAIRED, or GONE", BoundaryTests::openThenPairedOrGone);
        test("Terms: PAIRING for each from, to, KIND", BoundaryTests::onlyOfTheSameFromToKind);
        test("Terms: by from, then to, then KIND", BoundaryTests::byFromThenToThenKind);
        test("Terms: of OPEN GIVES and TAKES of these", BoundaryTests::eachGroupForItself);
        test("Terms: of each the first 8 by numbers", BoundaryTests::firstEightOfEach);
        test("Terms: of OPEN ones the first 8", BoundaryTests::firstEightOfOpenOnes);
        test("Terms: whose DAYS are 3 apart at most", BoundaryTests::threeDaysApartAtMost);
        test("Terms: PAIRED, one with one", BoundaryTests::oneWithOne);
        test("Terms: so that the most are", BoundaryTests::theMostArePaired);
        test("Terms: so that the most are, 8 of 8", BoundaryTests::eightOfSum24);
        test("Terms: the sum of DAYS apart is least", BoundaryTests::theSumOfDaysApartIsLeast);
        test("Terms: the first GIVE that differs", BoundaryTests::theFirstGiveThatDiffers);
        test("Terms: a TAKE comes ahead of none", BoundaryTests::aTakeComesAheadOfNone);
        test("Terms: a PAIR has a number from 0 on", BoundaryTests::pairsFrom0ByGives);
        test("Terms: a DAY, that of its TAKE", BoundaryTests::dayOfItsTake);
        test("Terms: ALIKE if both tell as many", BoundaryTests::alikeOrAQuarrel);
        test("Terms: COUNTED as the rule says", BoundaryTests::countedByEachRule);
        test("Terms: the rule of then", BoundaryTests::theRuleOfThen);
        test("Terms: the difference (if it is not 0)", BoundaryTests::judgingMakesTheDifference);
        test("Terms: it may be JUDGED again", BoundaryTests::judgedAgain);
        test("Terms: FINDING another number", BoundaryTests::findingAnotherNumber);
        test("Terms: LOST may be below 0", BoundaryTests::findingOfAnAccountBelow0);
        test("Terms: LOST at all HOUSES, if it is above 0", BoundaryTests::sharesOfASumAbove0);
        test("Terms: each gets its part cut", BoundaryTests::partsAreCut);
        test("Terms: those with the greatest rest", BoundaryTests::oneMoreToTheGreatestRest);
        test("Terms: of several the lesser number", BoundaryTests::ofEqualRestsTheLesserNumber);
        test("Terms: till all is paid", BoundaryTests::tillAllIsPaid);
        test("Terms: by HOUSES in proportion to their TURNS", BoundaryTests::theFirstHousePaysToo);
        test("Terms: without any TURNS nobody pays", BoundaryTests::withoutTurnsNobodyPays);
        test("Terms: TURNS as COUNTED, now", BoundaryTests::turnsAsCountedNow);
        test("Terms: FEES of an ACCOUNT above 0", BoundaryTests::feesOfAccountsAbove0);
        test("Terms: FEES over its 30 DAYS", BoundaryTests::feesOver30Days);
        test("Terms: FEES of a HOUSE over all KINDS", BoundaryTests::feesOfEachHouseAndKind);
        test("Terms: its last DAY behind the DAY of now", BoundaryTests::closingAMonthThatIsOver);
        test("Terms: the FEES are kept, and stay", BoundaryTests::feesAreKeptAndStay);
        test("Terms: DEBTS 0 at first; 100000 at most", BoundaryTests::debts100000AtMost);
        test("Terms: a RING: HOUSES, 2 or more", BoundaryTests::aRingHas2HousesOrMore);
        test("Terms: each of which owes the next one", BoundaryTests::eachOwesTheNextOne);
        test("Terms: the FIRST RING has the fewest HOUSES", BoundaryTests::theFirstRingHasTheFewest);
        test("Terms: of several its least HOUSE", BoundaryTests::ofSeveralTheLeastHouse);
        test("Terms: then the others in order", BoundaryTests::thenTheOthersInOrder);
        test("Terms: less by the least of them", BoundaryTests::lessByTheLeastOfThem);
        test("Terms: as long as there is a RING", BoundaryTests::asLongAsThereIsARing);
        test("Terms: each debt of the FIRST one", BoundaryTests::theFirstRingIsTakenOffFirst);
        test("Terms: EMPTIES and WANTS (0 .. 100)", BoundaryTests::emptiesAndWantsFrom0To100);
        test("Terms: WAYS (0 .. 1000, the same both ways)", BoundaryTests::waysFrom0To1000);
        test("Terms: as many as all WANTS, or more", BoundaryTests::emptiesAsManyAsWantsOrMore);
        test("Terms: all WANTS are met", BoundaryTests::allWantsAreMetWhenFull);
        test("Terms: own EMPTIES have the way 0", BoundaryTests::ownEmptiesHaveTheWay0);
        test("Terms: the least sum of ways", BoundaryTests::theLeastSum);
        test("Terms: the least sum of all ways", BoundaryTests::theLeastOfAllWays);
    }

    private static void promises() {
        test("1: no HOUSES, no KINDS, DAY 0, the rule 0", BoundaryTests::newObject);
        test("4: n below 1; it would be above 599", BoundaryTests::daysByTheEdges);
        test("5: n below 1; n above 1000", BoundaryTests::buyFrom1To1000);
        test("6: n below 1; more than there are", BoundaryTests::scrapFrom1On);
        test("6: -5 ahead of -6 ENTRIES", BoundaryTests::scrapWithEntriesLeft);
        test("8: an OPEN TELLING is GONE", BoundaryTests::dropAnOpenOne);
        test("9: the rule for QUARRELS that come: what it was", BoundaryTests::rulesFrom0To3);
        test("10: as soon as 25 came none further come", BoundaryTests::asSoonAs25Came);
        test("10: they stay OPEN, of the next ones too", BoundaryTests::the25thEndsAGroup);
        test("10: more than 1900 ENTRIES", BoundaryTests::pairAt1900Entries);
        test("11: n below 0; n above 1000", BoundaryTests::judgeFrom0To1000);
        test("11: fewer than two ENTRIES left", BoundaryTests::judgeWithTwoEntriesLeft);
        test("12: n below 0; n above 100000", BoundaryTests::foundFrom0To100000);
        test("12: ENTRIES", BoundaryTests::foundWithEntriesLeft);
        test("13: as of a DAY (also one to come)", BoundaryTests::accountFromDay0To599);
        test("14: LOST of a HOUSE and KIND", BoundaryTests::lostMayBeBelow0);
        test("17: month below 0; above 19; CLOSED or not", BoundaryTests::feesOfMonths0To19);
        test("17: FEES above an int", BoundaryTests::feesAboveAnInt);
        test("18: -3; all 20 are", BoundaryTests::closeNever20);
        test("19: 0 of a HOUSE that came later", BoundaryTests::billOfAHouseThatCameLater);
        test("20: -9: no such TELLING, what", BoundaryTests::tellingWhats0To7);
        test("21: -9: no such PAIR, what", BoundaryTests::pairOfWhats0To5);
        test("22: n below 1; it would be above 100000", BoundaryTests::oweFrom1On);
        test("23: 0: itself", BoundaryTests::owesItself);
        test("24: -9 if there is none, or it has not so many", BoundaryTests::ringHasNotSoMany);
        test("28: -5 there are not EMPTIES enough", BoundaryTests::planWithoutEmpties);
        test("29: false for no such KIND", BoundaryTests::checkOfAKind);
        test("30: -9 for another what", BoundaryTests::countsByNumber);
        test("30: 11 .. 16 REFUSALS -1 .. -6", BoundaryTests::refusalsByNumber);
    }

    public static void main(String[] args) {
        terms();
        promises();
        System.out.println("BoundaryTests: " + tests + " sentences, " + wrong + " wrong");
        if (wrong != 0) {
            System.exit(1);
        }
    }
}
