import java.math.BigInteger;

/** The bounds of promises 11 to 15: who may be laid, when a night counts and decides, how long a town runs. */
public final class NightBoundsTest {
    private static final int NONE = SleptMatters.NONE, UNKNOWN = SleptMatters.UNKNOWN, OUTSIDE = SleptMatters.OUTSIDE, NOT = SleptMatters.NOT;
    private static final String SEVEN_HOUSES = Due.times(7, "house 0 1;");

    public static void main(String[] args) {
        layUnknown();
        layFromA();
        layBehindZ();
        layOneForAMatter();
        laySleeperOnce();
        layByBeds();
        layWhatCountsAlready();
        layForDecided();
        layAgainWhatIsGone();
        layNoiseIsNoBar();
        riseBounds();
        wokenAboveLight();
        wokenOnDay99();
        decidedByK();
        decidedAsASet();
        decidedYes();
        yesAboveK();
        decidedWithMoreThanK();
        wokenTakesAll();
        nobodyTakesAll();
        nightsWithoutMatters();
        nightOfNobody();
        drawsBelowY();
        drawsAreCut();
        drawsInOrder();
        drawsComeRound();
        scoreByZ();
        scoreFromA();
        scoreOfNo();
        runBounds();
        runFromA();
        runByLight();
        runOutOfSleepers();
        runBeginsAgain();
        beginBounds();
        longestUse();
        Due.end();
    }

    private static void layUnknown() {
        int[][] near = {{-1, 3, 0}, {2, 3, 0}, {0, -1, 0}, {0, 4, 0}, {0, 3, -1}, {0, 3, 3}};
        for (int[] n : near) Twin.refusedByRich("lay " + n[0] + " " + n[1] + " " + n[2], UNKNOWN, x -> x.lay(n[0], n[1], n[2]));
        for (int far : Twin.FAR) {
            Twin.refusedByRich("lay for " + far, UNKNOWN, x -> x.lay(far, 3, 0));
            Twin.refusedByRich("lay " + far, UNKNOWN, x -> x.lay(0, far, 0));
            Twin.refusedByRich("lay in " + far, UNKNOWN, x -> x.lay(0, 3, far));
        }
        Twin.refusedByRich("UNKNOWN ahead of NOT", UNKNOWN, x -> x.lay(1, 2, 3));
        SleptMatters x = Due.with(SEVEN_HOUSES + Due.times(7, "sleeper 0 0 0;") + Due.times(3, "matter 0 0 0 0;"), "");
        Due.is("lay the last ones", x.lay(2, 6, 6), 1);
        Due.is("lay behind the last matter", x.lay(3, 5, 5), UNKNOWN);
        Due.is("lay behind the last sleeper", x.lay(1, 7, 5), UNKNOWN);
        Due.is("lay behind the last house", x.lay(1, 5, 7), UNKNOWN);
    }

    private static SleptMatters onDay(int day, int a) {
        SleptMatters x = Due.with("house 0 1;sleeper 0 0 0;matter " + a + " 99 0 0;", "nights 1;");
        for (int i = 0; i < day; i++) x.night();
        return x;
    }

    private static void layFromA() {
        int[] from = {1, 2, 50, 99};
        for (int a : from) {
            Twin.refused("lay ahead of " + a, NOT, () -> onDay(a - 1, a), x -> x.lay(0, 0, 0));
            Due.is("lay on A, " + a, onDay(a, a).lay(0, 0, 0), 1);
            Due.is("lay behind A, " + a, onDay(a + 1, a).lay(0, 0, 0), 1);
        }
        Twin.refused("lay long ahead of 99", NOT, () -> onDay(0, 99), x -> x.lay(0, 0, 0));
        Due.is("lay on day 0", onDay(0, 0).lay(0, 0, 0), 1);
    }

    private static void layBehindZ() {
        SleptMatters x = Due.with("house 0 1;sleeper 0 100 0;matter 0 3 50 0;", "nights 1;");
        for (int i = 0; i < 4; i++) x.night();
        Due.is("lay behind Z", x.lay(0, 0, 0), 1);
        Due.is("it is decided, too late", x.night(), 1);
        Due.is("yes, too late", x.matter(0, 6), 1);
        Due.is("no worth", x.told(10), 0);
    }

    private static SleptMatters threeMatters(String houses) {
        return Due.with(houses + Due.times(7, "sleeper 0 0 0;") + Due.times(3, "matter 0 9 0 0;"), "nights 2;on;");
    }

    private static SleptMatters oneLaid() {
        SleptMatters x = threeMatters(SEVEN_HOUSES);
        x.lay(0, 0, 0);
        return x;
    }

    private static void layOneForAMatter() {
        Twin.refused("a second for a matter", NOT, NightBoundsTest::oneLaid, x -> x.lay(0, 1, 1));
        Twin.refusedByRich("a second for a matter, beside much else", NOT, x -> x.lay(1, 3, 2));
        Twin.refused("the same once more", NOT, NightBoundsTest::oneLaid, x -> x.lay(0, 0, 0));
        SleptMatters x = oneLaid();
        Due.is("one for the next matter", x.lay(1, 1, 1), 2);
        Due.is("one for the last matter", x.lay(2, 2, 2), 3);
        x.rise(0);
        Due.is("another behind rise", x.lay(0, 3, 3), 3);
    }

    private static void laySleeperOnce() {
        Twin.refused("a sleeper for two matters", NOT, NightBoundsTest::oneLaid, x -> x.lay(1, 0, 1));
        SleptMatters x = oneLaid();
        x.rise(0);
        Due.is("a sleeper for another behind rise", x.lay(1, 0, 1), 1);
        Due.is("laid for the other", x.sleeper(0, 3), 1);
    }

    private static SleptMatters laidInHouse0(int beds, int laid) {
        SleptMatters x = threeMatters("house 0 " + beds + ";house 0 1;");
        for (int i = 0; i < laid; i++) x.lay(i, i, 0);
        return x;
    }

    private static void layByBeds() {
        for (int beds = 1; beds <= 4; beds++) {
            int all = beds;
            int most = Math.min(3, beds);
            for (int laid = 0; laid < most; laid++) {
                SleptMatters x = laidInHouse0(beds, laid);
                Due.is("free of " + beds + " behind " + laid, x.house(0, 2), beds - laid);
                Due.is("bed " + laid + " of " + beds, x.lay(laid, laid, 0), laid + 1);
                Due.is("beds of " + beds, x.house(0, 1), beds);
                x.night();
                Due.is("all are empty behind a night", x.house(0, 2), beds);
            }
            if (beds < 3) Twin.refused("a bed beyond " + beds, NOT, () -> laidInHouse0(all, all), x -> x.lay(all, all, 0));
            if (beds < 3) Due.is("another house", laidInHouse0(beds, beds).lay(beds, beds, 1), beds + 1);
        }
        Due.is("three beds, all taken", laidInHouse0(3, 3).house(0, 2), 0);
        Due.is("four beds, three taken", laidInHouse0(4, 3).house(0, 2), 1);
    }

    private static SleptMatters oneNightCounts() {
        SleptMatters x = oneLaid();
        x.night();
        return x;
    }

    private static void layWhatCountsAlready() {
        Twin.refused("a sleeper that counts", NOT, NightBoundsTest::oneNightCounts, x -> x.lay(0, 0, 1));
        Twin.refused("a house that counts", NOT, NightBoundsTest::oneNightCounts, x -> x.lay(0, 1, 0));
        Twin.refused("both count", NOT, NightBoundsTest::oneNightCounts, x -> x.lay(0, 0, 0));
        Due.is("neither counts", oneNightCounts().lay(0, 1, 1), 1);
        Due.is("both count, but for another", oneNightCounts().lay(1, 0, 0), 1);
    }

    private static SleptMatters decided() {
        SleptMatters x = oneNightCounts();
        x.lay(0, 1, 1);
        x.night();
        return x;
    }

    private static void layForDecided() {
        Twin.refused("for a decided one", NOT, NightBoundsTest::decided, x -> x.lay(0, 2, 2));
        Twin.refusedByRich("for a decided one beside much else", NOT, x -> x.lay(0, 3, 2));
        Due.is("for one that is open", decided().lay(1, 2, 2), 1);
    }

    private static void layAgainWhatIsGone() {
        SleptMatters x = Due.with("house 0 1;sleeper 0 0 0;matter 0 9 0 0;", "nights 2;again;");
        x.lay(0, 0, 0);
        x.night();
        Due.is("it counts", x.lay(0, 0, 0), NOT);
        x.night();
        Due.is("it is gone", x.lay(0, 0, 0), 1);
    }

    private static void layNoiseIsNoBar() {
        SleptMatters x = Due.with("house 0 1;sleeper 0 0 7;noise 0 0 0 9;matter 0 9 0 0;", "nights 1;");
        Due.is("one may be laid where it will be woken", x.lay(0, 0, 0), 1);
        Due.is("woken", x.night(), 0);
        Due.is("woken, but paid", x.told(7), 7);
    }

    private static void riseBounds() {
        int[] near = {-1, 2};
        for (int m : near) Twin.refusedByRich("rise " + m, UNKNOWN, x -> x.rise(m));
        for (int far : Twin.FAR) Twin.refusedByRich("rise " + far, UNKNOWN, x -> x.rise(far));
        Twin.refusedByRich("rise: nobody is laid", NOT, x -> x.rise(0));
        SleptMatters x = Twin.rich();
        Due.is("rise", x.rise(1), 2);
        Due.is("rise again", x.rise(1), NOT);
        Due.is("rise: got up", x.sleeper(2, 3), NONE);
        Due.is("rise: bed", x.house(1, 2), 2);
        Due.is("sleeper 0 is no NONE", oneLaid().rise(0), 0);
        Due.is("nobody behind a night", oneNightCounts().rise(0), NOT);
    }

    private static void wokenAboveLight() {
        for (int light = 0; light <= 9; light++) {
            for (int more = -1; more <= 1; more++) {
                int noise = light + more;
                if (noise < 1) continue;
                String told = noise > 9 ? "noise 2 0 0 9;noise 2 0 0 " + (noise - 9) + ";" : "noise 2 0 0 " + noise + ";";
                SleptMatters x = Due.with("house 2 1;sleeper " + light + " 0 0;" + told + "matter 0 9 0 0;", "nights 1;");
                x.lay(0, 0, 0);
                Due.is("noise " + noise + " by LIGHT " + light, x.night(), more == 1 ? 0 : 1);
            }
        }
        SleptMatters x = Due.with("house 1 1;sleeper 0 0 0;noise 0 0 99 9;noise 2 0 99 9;matter 0 9 0 0;", "nights 1;");
        Due.is("noise of other streets", x.run(1), 1);
    }

    private static void wokenOnDay99() {
        for (int day = 98; day <= 101; day++) {
            SleptMatters x = Due.with("house 0 1;sleeper 0 0 0;noise 0 99 99 1;matter 0 9 0 0;", "nights 1;");
            for (int i = 0; i < day; i++) x.night();
            x.lay(0, 0, 0);
            Due.is("woken on day " + day, x.night(), day == 99 ? 0 : 1);
        }
    }

    private static void decidedByK() {
        for (int k = 1; k <= 7; k++) {
            SleptMatters x = Due.with(SEVEN_HOUSES + Due.times(7, "sleeper 0 100 0;") + "matter 0 9 0 0;", "nights " + k + ";");
            for (int i = 0; i < k; i++) {
                Due.is("open ahead of night " + i + " of " + k, x.matter(0, 6), 0);
                Due.is("no day yet", x.matter(0, 7), NONE);
                x.lay(0, 6 - i, i);
                Due.is("night " + i + " of " + k, x.night(), i == k - 1 ? 1 : 0);
                Due.is("count behind night " + i, x.matter(0, 4), i + 1);
            }
            Due.is("decided on the last", x.matter(0, 7), k - 1);
            Due.is("all houses", x.matter(0, 9), (1 << k) - 1);
            Due.is("all sleepers", x.matter(0, 8), 128 - (1 << 7 - k));
        }
    }

    private static void decidedAsASet() {
        for (int set = 0; set < 8; set++) {
            SleptMatters x = Due.with(SEVEN_HOUSES + Due.times(7, "sleeper 0 0 0;") + Due.times(3, "matter 0 9 0 0;"), "nights 1;");
            int laid = 0;
            for (int m = 0; m < 3; m++) {
                if ((set >> m & 1) == 0) continue;
                laid++;
                Due.is("laid tonight of " + set, x.lay(m, m, m), laid);
            }
            Due.is("the SET that is decided", x.night(), set);
            Due.is("how many are decided by then", x.run(1), 3);
        }
    }

    private static SleptMatters dreamers(int yes, String laws) {
        SleptMatters x = Due.with(SEVEN_HOUSES + Due.times(yes, "sleeper 0 100 0;") + Due.times(7 - yes, "sleeper 0 0 0;") + "matter 0 9 9 0;", laws);
        x.run(7);
        return x;
    }

    private static void decidedYes() {
        for (int must = 0; must <= 7; must++) {
            for (int yes = 0; yes <= 7; yes++) {
                SleptMatters x = dreamers(yes, "yes " + must + ";");
                Due.is(yes + " dreams", x.matter(0, 5), yes);
                Due.is(yes + " dreams of " + must, x.matter(0, 6), yes >= must ? 1 : 2);
                Due.is(yes + " dreams of " + must + ": worth", x.told(10), yes >= must ? 9 : 0);
            }
        }
        Due.is("3 of 4 untold", dreamers(3, "").matter(0, 6), 2);
        Due.is("4 of 4 untold", dreamers(4, "").matter(0, 6), 1);
    }

    private static void yesAboveK() {
        SleptMatters x = dreamers(7, "nights 2;yes 3;");
        Due.is("more than K must dream yes", x.matter(0, 6), 2);
        Due.is("it is decided all the same", x.matter(0, 7), 1);
    }

    private static void decidedWithMoreThanK() {
        SleptMatters x = threeMatters(SEVEN_HOUSES);
        Due.laws(x, "nights 7;on;");
        for (int i = 0; i < 3; i++) {
            x.lay(0, i, i);
            x.night();
        }
        Due.laws(x, "nights 3;on;");
        Due.is("as many as K count, but no night came", x.matter(0, 6), 0);
        Due.is("a night of nobody decides nothing", x.night(), 0);
        x.lay(0, 3, 3);
        Due.is("more than K", x.night(), 1);
        Due.is("more than K count", x.matter(0, 4), 4);
        Due.is("decided on its day", x.matter(0, 7), 4);
    }

    private static void wokenTakesAll() {
        for (int n = 0; n <= 6; n++) {
            for (int again = 0; again < 2; again++) {
                String noise = "noise 1 " + n + " " + n + " 1;";
                SleptMatters x = Due.with(Due.times(6, "house 0 1;") + "house 1 1;" + Due.times(7, "sleeper 0 100 0;") + noise + "matter 0 9 0 0;",
                    again == 1 ? "again;" : "on;");
                for (int i = 0; i < n; i++) {
                    x.lay(0, i, i);
                    x.night();
                }
                x.lay(0, 6, 6);
                x.night();
                Due.is("woken behind " + n, x.matter(0, 4), again == 1 ? 0 : n);
                Due.is("dreams, woken behind " + n, x.matter(0, 5), again == 1 ? 0 : n);
                Due.is("sleepers, woken behind " + n, x.matter(0, 8), again == 1 ? 0 : (1 << n) - 1);
                Due.is("houses, woken behind " + n, x.matter(0, 9), again == 1 ? 0 : (1 << n) - 1);
            }
        }
    }

    private static void nobodyTakesAll() {
        SleptMatters x = threeMatters(SEVEN_HOUSES);
        Due.laws(x, "nights 2;again;");
        x.lay(0, 0, 0);
        x.lay(1, 1, 1);
        x.night();
        x.lay(1, 2, 2);
        Due.is("one goes on", x.night(), 2);
        Due.is("the other begins again", x.matter(0, 4), 0);
        Due.laws(x, "nights 2;on;");
        x.lay(0, 0, 0);
        x.night();
        x.night();
        Due.is("by 'on' it waits", x.matter(0, 4), 1);
        Due.laws(x, "nights 2;");
        x.night();
        Due.is("by LAW as it is now", x.matter(0, 4), 0);
    }

    private static void nightsWithoutMatters() {
        SleptMatters x = new SleptMatters();
        Due.is("no matters", Due.town(x, "house 0 1;sleeper 0 0 0;"), 0);
        Due.is("no matters: night", x.night(), 0);
        Due.is("no matters: run", x.run(100), 0);
        Due.is("no matters: score", x.told(10), 0);
        Due.is("no matters: day", x.told(6), 101);
    }

    private static void nightOfNobody() {
        SleptMatters x = threeMatters(SEVEN_HOUSES);
        int seed = x.seed(12345);
        Due.is("seed at first", seed, 0);
        for (int i = 0; i < 3; i++) Due.is("a night of nobody", x.night(), 0);
        Due.is("no wages", x.told(7), 0);
        Due.is("no draws", x.seed(0), 12345);
        Due.is("days", x.told(6), 3);
    }

    private static int dreamOf(int y, int seed) {
        SleptMatters x = Due.with("house 0 1;sleeper 0 " + y + " 0;matter 0 9 0 0;", "nights 1;yes 1;");
        x.seed(seed);
        x.run(1);
        return x.matter(0, 5);
    }

    /** A seed from which the next draw of 100 is this. */
    private static int seedFor(int draw) {
        for (long seed = 0; seed < 100000; seed++) {
            long next = (seed * 1103515245L + 12345L) % 2147483648L;
            if (next / 65536 % 100 == draw) return (int) seed;
        }
        return NONE;
    }

    private static void drawsBelowY() {
        int[] draws = {0, 1, 49, 50, 98, 99};
        for (int draw : draws) {
            int seed = seedFor(draw);
            Due.is("a draw of " + draw + " is not below itself", dreamOf(draw, seed), 0);
            Due.is("a draw of " + draw + " is below the next", dreamOf(draw + 1, seed), 1);
            Due.is("a draw of " + draw + " is not below 0", dreamOf(0, seed), 0);
            Due.is("a draw of " + draw + " is below 100", dreamOf(100, seed), 1);
        }
    }

    /** The last seed ahead of a next draw, and the first of it: what is below 65536 is cut. */
    private static void drawsAreCut() {
        for (long seed = 0; seed < 400000; seed++) {
            long next = (seed * 1103515245L + 12345L) % 2147483648L;
            if (next % 65536 != 0 && next % 65536 != 65535) continue;
            int draw = (int) (next / 65536 % 100);
            Due.is("a draw of " + draw + " from " + seed, dreamOf(draw, (int) seed), 0);
            Due.is("a draw of " + draw + " from " + seed + " below the next", dreamOf(draw + 1, (int) seed), 1);
        }
    }

    private static void drawsInOrder() {
        SleptMatters x = Due.with(SEVEN_HOUSES + Due.times(7, "sleeper 0 50 0;") + "noise 1 0 0 1;" + Due.times(3, "matter 0 9 0 0;"), "nights 1;yes 1;");
        x.seed(99);
        // Who is laid last for the first matter draws first all the same.
        x.lay(2, 0, 0);
        x.lay(1, 1, 1);
        x.lay(0, 2, 2);
        x.night();
        long seed = 99;
        for (int m = 0; m < 3; m++) {
            seed = (seed * 1103515245L + 12345L) % 2147483648L;
            Due.is("draw of matter " + m, x.matter(m, 5), seed / 65536 % 100 < 50 ? 1 : 0);
        }
        Due.is("three draws", x.seed(0), seed);
    }

    private static void drawsComeRound() {
        int[] seeds = {0, 1, 65535, 65536, 1073741824, 2147483646, 2147483647};
        for (int from : seeds) {
            SleptMatters x = Due.with("house 0 1;sleeper 0 100 0;matter 0 9 0 0;", "nights 1;");
            x.seed(from);
            x.run(1);
            BigInteger next = BigInteger.valueOf(from).multiply(BigInteger.valueOf(1103515245L));
            next = next.add(BigInteger.valueOf(12345)).mod(BigInteger.ONE.shiftLeft(31));
            Due.is("the seed behind " + from, x.seed(0), next.intValueExact());
        }
    }

    private static int scoreOnDay(int day, int a, int z) {
        SleptMatters x = Due.with("house 0 1;sleeper 0 100 0;matter " + a + " " + z + " 500 7;", "nights 1;");
        for (int i = 0; i < day; i++) x.night();
        x.lay(0, 0, 0);
        x.night();
        for (int i = 0; i < 5; i++) x.night();
        return x.told(10);
    }

    private static void scoreByZ() {
        Due.is("decided ahead of Z", scoreOnDay(3, 2, 4), 500 - 7);
        Due.is("decided on Z", scoreOnDay(4, 2, 4), 500 - 14);
        Due.is("decided behind Z", scoreOnDay(5, 2, 4), -21);
        Due.is("decided on A and Z", scoreOnDay(4, 4, 4), 500);
        Due.is("decided on day 99", scoreOnDay(99, 99, 99), 500);
        Due.is("decided on day 100", scoreOnDay(100, 99, 99), -7);
    }

    private static void scoreFromA() {
        SleptMatters x = Due.with("matter 2 9 500 7;matter 0 9 500 99;", "");
        int[] due = {0, -99, -198, -7 - 297, -14 - 396};
        for (int day = 0; day < due.length; day++) {
            Due.is("score open on day " + day, x.told(10), due[day]);
            x.night();
        }
        for (int i = 0; i < 3; i++) x.run(100);
        Due.is("score open long behind Z", x.told(10), -7 * 303 - 99 * 305);
    }

    private static void scoreOfNo() {
        SleptMatters x = Due.with("house 0 1;sleeper 0 0 11;matter 0 9 500 7;", "nights 1;");
        x.night();
        x.run(9);
        Due.is("decided no on day 1", x.matter(0, 6) * 10 + x.matter(0, 7), 21);
        Due.is("no: no worth, cost up to its day, wages", x.told(10), -7 - 11);
    }

    private static void runBounds() {
        SleptMatters x = Twin.rich();
        Due.is("run 1: who is laid decides the second", x.run(1), 2);
        Due.is("run 1: day", x.told(6), 3);
        Due.is("run 100", x.run(100), 2);
        Due.is("run 100: day", x.told(6), 103);
        int[] near = {0, -1, 101};
        for (int n : near) Twin.refusedByRich("run " + n, OUTSIDE, y -> y.run(n));
        for (int far : Twin.FAR) Twin.refusedByRich("run " + far, OUTSIDE, y -> y.run(far));
    }

    private static void runFromA() {
        for (int a = 1; a <= 99; a += 49) {
            SleptMatters x = Due.with("house 0 1;sleeper 0 0 0;matter " + a + " 99 0 0;", "nights 1;");
            Due.is("run up to A " + a, x.run(a), 0);
            Due.is("run over A " + a, x.run(1), 1);
            Due.is("decided on A " + a, x.matter(0, 7), a);
        }
    }

    private static void runByLight() {
        SleptMatters x = Due.with("house 0 1;house 1 1;sleeper 3 0 0;sleeper 4 0 0;noise 0 0 0 4;noise 1 0 0 4;noise 0 1 1 3;matter 0 9 0 0;", "nights 2;on;");
        x.run(1);
        Due.is("noise above LIGHT of the least: the next is laid", x.matter(0, 8) * 10 + x.matter(0, 9), 21);
        x.run(1);
        Due.is("noise as LIGHT: the least is laid", x.matter(0, 8) * 10 + x.matter(0, 9), 33);
        x = Due.with("house 0 1;sleeper 0 0 5;noise 0 0 0 1;matter 0 9 0 0;", "nights 1;");
        Due.is("none: nobody", x.run(1), 0);
        Due.is("none: no wages", x.told(7), 0);
        // For the least sleeper alone no house is left that may be: the next one is laid.
        x = Due.with("house 0 1;house 1 1;sleeper 0 0 0;sleeper 9 0 0;sleeper 0 0 0;noise 1 1 1 1;matter 0 9 0 0;", "nights 3;on;");
        x.lay(0, 1, 0);
        x.night();
        x.run(1);
        Due.is("house 0 counts, house 1 is loud: nobody", x.matter(0, 8), 2);
        x.run(1);
        Due.is("calm again: the least", x.matter(0, 8) * 10 + x.matter(0, 9), 33);
    }

    private static void runOutOfSleepers() {
        SleptMatters x = Due.with("house 0 4;sleeper 0 0 1;sleeper 0 0 1;" + Due.times(3, "matter 0 9 0 0;"), "nights 1;");
        Due.is("two sleepers for three", x.run(1), 2);
        Due.is("the third waits", x.matter(2, 6), 0);
        Due.is("the third then", x.run(1), 3);
        x = Due.with("house 0 2;" + Due.times(7, "sleeper 0 0 1;") + Due.times(3, "matter 0 9 0 0;"), "nights 1;");
        Due.is("two beds for three", x.run(1), 2);
        x = Due.with(SEVEN_HOUSES + Due.times(6, "sleeper 0 0 1;") + "matter 0 9 0 0;", "nights 7;on;");
        Due.is("six sleepers for seven nights", x.run(100), 0);
        Due.is("all six have slept", x.matter(0, 8), 63);
        Due.is("six wages", x.told(7), 6);
    }

    private static void runBeginsAgain() {
        SleptMatters x = Due.with(SEVEN_HOUSES + Due.times(6, "sleeper 0 0 1;") + "matter 0 9 0 0;", "nights 7;again;");
        x.run(6);
        Due.is("six nights", x.matter(0, 4), 6);
        x.run(1);
        Due.is("nobody is left: all are gone", x.matter(0, 4), 0);
        x.run(1);
        Due.is("begun again", x.matter(0, 4), 1);
    }

    private static void beginBounds() {
        SleptMatters x = Twin.richWithoutText();
        Due.is("begin on day 2", x.begin(), 2);
        Due.is("begin on day 0", x.begin(), 0);
        Due.is("begin: lay once more", x.lay(0, 0, 0), 1);
        x.run(100);
        Due.is("begin on day 100", x.begin(), 100);
        x = new SleptMatters();
        for (int i = 0; i < 11; i++) x.run(100);
        Due.is("begin on day 1100", x.begin(), 1100);
    }

    /** 512 calls, most of them of 100 days: all that is counted stays far above the refusals. */
    private static void longestUse() {
        String town = "house 0 4;house 0 4;" + Due.times(7, "sleeper 0 0 99;") + Due.times(3, "matter 0 9 0 99;");
        SleptMatters x = Due.with(town, "nights 7;");
        int calls = (town.length() + 7) / 8 + 2 + 2;
        int runs = 512 - calls - 3;
        for (int i = 0; i < runs; i++) x.run(100);
        int days = 100 * runs;
        Due.is("longest: day", x.told(6), days);
        // Two houses: two nights of three sleepers each, then one of nobody.
        int nights = days / 3 * 2 + Math.min(2, days % 3);
        Due.is("longest: wages", x.told(7), nights * 3 * 99);
        Due.is("longest: score", x.told(10), -3 * 99 * days - nights * 3 * 99);
    }
}
