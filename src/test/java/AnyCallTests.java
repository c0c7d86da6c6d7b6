import java.util.Random;

/**
 * No call may throw or fail to end, for any arguments in any state: calls with numbers at and
 * beside every edge, on objects that are new, full, and far past the document's 512 calls.
 */
public final class AnyCallTests {
    private static final int[] EDGES = {
        Integer.MIN_VALUE, Integer.MIN_VALUE + 1, -1000000001, -601, -10, -9, -6, -2, -1, 0, 1, 2, 3,
        4, 5, 6, 7, 8, 9, 10, 11, 16, 17, 19, 20, 29, 30, 31, 99, 100, 101, 199, 200, 399, 400, 401,
        599, 600, 601, 999, 1000, 1001, 1999, 2000, 2001, 99999, 100000, 100001, 1000000000,
        Integer.MAX_VALUE - 1, Integer.MAX_VALUE
    };

    private static int wrong = 0;

    private static void due(String call, long want, long got) {
        if (got != want) {
            wrong++;
            System.out.println(call + " answered " + got + ", due is " + want);
        }
    }

    private static long call(CarrierPool x, int which, int[] n, boolean give) {
        switch (which) {
            case 0: return x.house();
            case 1: return x.kind(n[0], n[1]);
            case 2: return x.days(n[0]);
            case 3: return x.buy(n[0], n[1], n[2]);
            case 4: return x.scrap(n[0], n[1], n[2]);
            case 5: return x.tell(give, n[0], n[1], n[2], n[3]);
            case 6: return x.drop(n[0]);
            case 7: return x.rule(n[0]);
            case 8: return x.pair();
            case 9: return x.judge(n[0], n[1]);
            case 10: return x.found(n[0], n[1], n[2]);
            case 11: return x.account(n[0], n[1], n[2]);
            case 12: return x.lost(n[0], n[1]);
            case 13: return x.turns(n[0], n[1]);
            case 14: return x.share(n[0], n[1]);
            case 15: return x.fees(n[0], n[1]);
            case 16: return x.close();
            case 17: return x.bill(n[0], n[1]);
            case 18: return x.telling(n[0], n[1]);
            case 19: return x.pairOf(n[0], n[1]);
            case 20: return x.owe(n[0], n[1], n[2], n[3]);
            case 21: return x.owes(n[0], n[1], n[2]);
            case 22: return x.ring(n[0], n[1]);
            case 23: return x.off(n[0]);
            case 24: return x.want(n[0], n[1], n[2]);
            case 25: return x.way(n[0], n[1], n[2]);
            case 26: return x.plan();
            case 27: return x.check(n[0]) ? 1 : 0;
            default: return x.count(n[0]);
        }
    }

    private static int number(Random chance) {
        return chance.nextInt(3) == 0 ? EDGES[chance.nextInt(EDGES.length)] : chance.nextInt(8);
    }

    private static String name(int which, int[] n) {
        return "call " + which + " with " + n[0] + ", " + n[1] + ", " + n[2] + ", " + n[3];
    }

    private static void anyCalls(int seed) {
        Random chance = new Random(seed);
        CarrierPool x = new CarrierPool();
        int[] n = new int[4];
        for (int c = 0; c < 20000; c++) {
            for (int i = 0; i < n.length; i++) {
                n[i] = number(chance);
            }
            int which = chance.nextInt(29);
            try {
                call(x, which, n, chance.nextBoolean());
            } catch (RuntimeException thrown) {
                wrong++;
                System.out.println("seed " + seed + ": " + name(which, n) + " threw " + thrown);
                return;
            }
        }
    }

    // 512 calls cannot fill the entries; the guards behind them are held to all the same.
    private static void fullLedger() {
        CarrierPool x = new CarrierPool();
        x.house();
        x.house();
        x.kind(1, 1);
        x.tell(true, 0, 1, 0, 5);
        x.tell(false, 0, 1, 0, 6);
        due("pair()", 1, x.pair());
        for (int i = 0; i < 1898; i++) {
            x.buy(0, 0, 1);
        }
        due("count(3)", 1900, x.count(3));
        x.tell(true, 0, 1, 0, 5);
        x.tell(false, 0, 1, 0, 6);
        due("pair() at 1900 entries", 1, x.pair());
        x.tell(true, 0, 1, 0, 5);
        x.tell(false, 0, 1, 0, 6);
        due("pair() above 1900 entries", -6, x.pair());
        due("count(16)", 1, x.count(16));
        for (int i = 0; i < 97; i++) {
            x.buy(0, 0, 1);
        }
        due("count(3)", 1999, x.count(3));
        due("judge(0, 1) with one entry left", -6, x.judge(0, 1));
        due("buy(0, 0, 1)", 1984, x.buy(0, 0, 1));
        due("count(3)", 2000, x.count(3));
        due("buy(0, 0, 1)", 1000000006, x.buy(0, 0, 1));
        due("found(0, 0, 1)", 1000000006, x.found(0, 0, 1));
        due("scrap(0, 0, 1)", 1000000006, x.scrap(0, 0, 1));
        due("scrap(0, 0, 1985)", 1000000005, x.scrap(0, 0, 1985));
        due("count(3)", 2000, x.count(3));
        due("account(0, 0, 0)", 1984, x.account(0, 0, 0));
        due("fees(0, 0)", 1984 * 30, x.fees(0, 0));
        due("check(0)", 1, x.check(0) ? 1 : 0);
    }

    private static void fullDoors() {
        CarrierPool x = new CarrierPool();
        for (int h = 0; h < 10; h++) {
            x.house();
        }
        for (int k = 0; k < 6; k++) {
            x.kind(1, 1);
        }
        for (int i = 0; i < 200; i++) {
            x.tell(true, 9, 8, 5, 5);
            x.tell(false, 9, 8, 5, 6);
        }
        due("count(5)", 400, x.count(5));
        for (int i = 0; i < 25; i++) {
            due("pair()", 8, x.pair());
        }
        due("pair()", 0, x.pair());
        due("count(5)", 0, x.count(5));
        due("count(6)", 200, x.count(6));
        due("count(7)", 200, x.count(7));
        due("pairOf(199, 0)", 398, x.pairOf(199, 0));
        due("pairOf(200, 0)", -9, x.pairOf(200, 0));
        due("judge(200, 0)", -1, x.judge(200, 0));
        due("drop(400)", -1, x.drop(400));
        due("turns(8, 5)", 1200, x.turns(8, 5));
        due("count(3)", 400, x.count(3));
    }

    public static void main(String[] args) {
        for (int seed = 1; seed <= 60; seed++) {
            anyCalls(seed);
        }
        fullLedger();
        fullDoors();
        System.out.println("AnyCallTests: " + wrong + " wrong");
        if (wrong != 0) {
            System.exit(1);
        }
    }
}
