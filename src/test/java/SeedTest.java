import java.math.BigInteger;
import java.util.SplittableRandom;

/** The numbers that a seed makes, where they wrap around, and the lives drawn by them. */
public final class SeedTest {
    private static final BigInteger WRAP = BigInteger.ONE.shiftLeft(64);
    private static final BigInteger STEP = new BigInteger("9E3779B97F4A7C15", 16);
    private static final BigInteger FIRST = new BigInteger("BF58476D1CE4E5B9", 16);
    private static final BigInteger SECOND = new BigInteger("94D049BB133111EB", 16);

    // Things and draws at both ends, and where one thing's last draw meets the next one's first.
    private static final int[][] PLACES = {{0, 0}, {0, 1}, {0, 1000}, {1, 0}, {1, 1000}, {2, 0}, {6, 1000}, {7, 0}, {7, 999}, {7,
            1000}};

    private static final Calls calls = new Calls();

    public static void main(String[] args) {
        knownNumbers();
        firstSeed();
        remainders();
        signBit();
        sumsThatWrap();
        allPlaces();
        neighbours();
        roundedDown();
        calls.end();
    }

    // The document's steps are those of SplitMix64, whose first numbers of seed 1234567 are widely printed:
    // 6457827717110365317, 3203168211198807973, 9817491932198370423 (sign bit set), 4593380528125082431,
    // 16408922859458223821 (sign bit set); by 101 and without the sign bit 79, 20, 87, 20, 25 remain.
    private static void knownNumbers() {
        calls.run("A SEED makes numbers", "thing 100 1 = 0", "seed 1234567 = ok", "left 0 0 = 129", "left 0 1 = 70",
                "left 0 2 = 137", "left 0 3 = 70", "left 0 4 = 75");
    }

    private static void firstSeed() {
        WearHours fresh = eightThings();
        WearHours told = eightThings();
        calls.more(told, "1 at first", "seed 1 = ok");
        for (int[] place : PLACES) {
            String call = "left " + place[0] + " " + place[1];
            calls.due("1 at first", call, Calls.answer(fresh, call), Calls.answer(told, call));
            calls.due("1 at first", call, Calls.answer(fresh, call), drawn(numberAt(1, place(place))));
        }
    }

    private static void remainders() {
        for (int[] place : PLACES) {
            dueNumber(place, 0L, "500000");
            dueNumber(place, 1L, "510000");
            dueNumber(place, 99L, "1490000");
            dueNumber(place, 100L, "1500000");
            dueNumber(place, 101L, "500000");
            dueNumber(place, 102L, "510000");
            dueNumber(place, Long.MAX_VALUE - 89, "500000");
            dueNumber(place, Long.MAX_VALUE - 90, "1500000");
            dueNumber(place, Long.MAX_VALUE, "1390000");
        }
    }

    private static void signBit() {
        for (int[] place : PLACES) {
            dueNumber(place, Long.MIN_VALUE, "500000");
            dueNumber(place, Long.MIN_VALUE + 1, "510000");
            dueNumber(place, Long.MIN_VALUE + 100, "1500000");
            dueNumber(place, Long.MIN_VALUE + 101, "500000");
            dueNumber(place, -1L, "1390000");
            dueNumber(place, -90L, "500000");
            dueNumber(place, -91L, "1500000");
        }
    }

    /** The seed that makes this number in this place must draw that life. */
    private static void dueNumber(int[] place, long number, String want) {
        WearHours x = eightThings();
        x.seed(seedFor(number, place(place)));
        String call = "left " + place[0] + " " + place[1];
        calls.due("number " + number, call, Calls.answer(x, call), want);
    }

    // Seed and place add up to just below and just above 0, the greatest long and the least.
    private static void sumsThatWrap() {
        long[] sums = {-2, -1, 0, 1, 2, Long.MAX_VALUE - 1, Long.MAX_VALUE, Long.MIN_VALUE, Long.MIN_VALUE + 1};
        for (int[] place : PLACES) {
            long steps = STEP.longValue() * place(place);
            WearHours x = eightThings();
            for (long sum : sums) {
                x.seed(sum - steps);
                dueLeft("sum " + sum, x, sum - steps, place[0], place[1]);
                x.seed(sum);
                dueLeft("seed " + sum, x, sum, place[0], place[1]);
            }
        }
    }

    // java.util's SplittableRandom draws the same numbers, one behind the other.
    private static void allPlaces() {
        for (long seed : new long[] {1, 0, -1, Long.MIN_VALUE, Long.MAX_VALUE, 0x61C8864680B583EBL}) {
            SplittableRandom numbers = new SplittableRandom(seed);
            WearHours x = null;
            for (int i = 0; i < 8008; i++) {
                if (i % 400 == 0) {
                    x = eightThings();
                    x.seed(seed);
                }
                String call = "left " + i / 1001 + " " + i % 1001;
                calls.due("seed " + seed, call, Calls.answer(x, call), drawn(numbers.nextLong()));
            }
        }
    }

    // A thing's number 0 stands right behind the number 1,000 of the thing ahead of it.
    private static void neighbours() {
        WearHours x = eightThings();
        for (int i = 0; i < 20; i++) {
            long seed = i * 0x123456789ABCDEFL;
            x.seed(seed);
            String after = Calls.answer(x, "left 1 0");
            x.seed(seed + STEP.longValue());
            calls.due("places " + seed, "left 0 1000", Calls.answer(x, "left 0 1000"), after);
        }
    }

    private static void roundedDown() {
        for (int r = 0; r <= 100; r++) {
            WearHours x = calls.run("rounded down", "thing 1 1 = 0", "thing 999999 1 = 1", "thing 3 9 = 2");
            x.seed(seedFor(r, 1));
            calls.more(x, "rounded down, r " + r, "left 0 0 = " + (r < 50 ? 0 : 1));
            x.seed(seedFor(r, 1002));
            calls.more(x, "rounded down, r " + r, "left 1 0 = " + 999999L * (50 + r) / 100);
            x.seed(seedFor(r, 2003));
            calls.more(x, "rounded down, r " + r, "left 2 0 = " + (r < 17 ? 1 : r < 50 ? 2 : r < 84 ? 3 : 4));
        }
    }

    private static void dueLeft(String name, WearHours x, long seed, int thing, int n) {
        String call = "left " + thing + " " + n;
        calls.due(name, call, Calls.answer(x, call), drawn(numberAt(seed, 1001 * thing + n + 1)));
    }

    private static WearHours eightThings() {
        WearHours x = new WearHours();
        for (int i = 0; i < 8; i++) {
            x.thing(1000000, 1);
        }
        return x;
    }

    private static int place(int[] thingAndDraw) {
        return 1001 * thingAndDraw[0] + thingAndDraw[1] + 1;
    }

    private static String drawn(long number) {
        return "" + 10000 * (50 + whole(number).clearBit(63).mod(BigInteger.valueOf(101)).intValue());
    }

    private static BigInteger whole(long number) {
        return BigInteger.valueOf(number).mod(WRAP);
    }

    /** The document's steps in whole numbers, cut to 64 bits by hand. */
    private static long numberAt(long seed, int place) {
        BigInteger z = whole(seed).add(STEP.multiply(BigInteger.valueOf(place))).mod(WRAP);
        z = z.xor(z.shiftRight(30)).multiply(FIRST).mod(WRAP);
        z = z.xor(z.shiftRight(27)).multiply(SECOND).mod(WRAP);
        return z.xor(z.shiftRight(31)).longValue();
    }

    /** The same steps backwards. */
    private static long seedFor(long number, int place) {
        BigInteger z = unshift(whole(number), 31);
        z = unshift(z.multiply(SECOND.modInverse(WRAP)).mod(WRAP), 27);
        z = unshift(z.multiply(FIRST.modInverse(WRAP)).mod(WRAP), 30);
        return z.subtract(STEP.multiply(BigInteger.valueOf(place))).longValue();
    }

    private static BigInteger unshift(BigInteger mixed, int by) {
        BigInteger z = mixed;
        for (int done = by; done < 64; done += by) {
            z = mixed.xor(z.shiftRight(by));
        }
        return z;
    }
}
