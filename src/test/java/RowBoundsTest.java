/** The bounds of promises 16 to 22: the last days, Z, K, how many sleepers and houses, and what may be asked. */
public final class RowBoundsTest {
    private static final int NONE = SleptMatters.NONE, UNKNOWN = SleptMatters.UNKNOWN, OUTSIDE = SleptMatters.OUTSIDE;
    private static final String SEVEN_HOUSES = Due.times(7, "house 0 1;");
    private static final String SEVEN = SEVEN_HOUSES + Due.times(7, "sleeper 0 50 3;");

    public static void main(String[] args) {
        unknownMatters();
        outsideWhats();
        soonestParts();
        lastDayFromA();
        lastDayFromTheDay();
        lastDayAlone();
        soonestBehindZ();
        asManySleepers();
        asManyHouses();
        houseOnce();
        sleeperOnce();
        calmAsLight();
        calmEveryOtherDay();
        mattersInTurn();
        nothingOfTheTownAhead();
        byZ();
        byZFromTheDay();
        cheapestBounds();
        cheapestLikeOnes();
        likeliestBounds();
        likeliestLikeOnes();
        togetherWhats();
        togetherByZ();
        togetherBeds();
        togetherLikeOnes();
        stoppedBounds();
        stoppedParts();
        triedBounds();
        letBounds();
        letBeds();
        askedOftenAtTheBounds();
        Due.end();
    }

    private interface Asked {
        int of(SleptMatters x, int m);
    }

    private static void unknown(String name, Asked asked) {
        int[] near = {-1, 2};
        for (int m : near) Twin.refusedByRich(name + " of " + m, UNKNOWN, x -> asked.of(x, m));
        for (int m : Twin.FAR) Twin.refusedByRich(name + " of " + m, UNKNOWN, x -> asked.of(x, m));
        SleptMatters x = Due.with(SEVEN + Due.times(3, "matter 0 99 0 0;"), "nights 1;");
        Due.is(name + " of the last", asked.of(x, 2) < NONE ? 1 : 0, 0);
        Due.is(name + " behind the last", asked.of(x, 3), UNKNOWN);
    }

    private static void unknownMatters() {
        unknown("soonest", (x, m) -> x.soonest(m, NONE));
        unknown("a night of soonest", (x, m) -> x.soonest(m, 0));
        unknown("soonest below NONE", (x, m) -> x.soonest(m, -2));
        unknown("cheapest", (x, m) -> x.cheapest(m, 0));
        unknown("likeliest", (x, m) -> x.likeliest(m, 0));
        unknown("stopped", (x, m) -> x.stopped(m, NONE));
        unknown("tried", (x, m) -> x.tried(m, 1));
        Twin.refusedByRich("cheapest: UNKNOWN ahead of OUTSIDE", UNKNOWN, x -> x.cheapest(2, 3));
        Twin.refusedByRich("likeliest: UNKNOWN ahead of OUTSIDE", UNKNOWN, x -> x.likeliest(-1, -1));
        Twin.refusedByRich("tried: UNKNOWN ahead of OUTSIDE", UNKNOWN, x -> x.tried(2, 8));
        Twin.refusedByRich("let: UNKNOWN ahead of OUTSIDE", UNKNOWN, x -> x.let(4, 100, 2));
    }

    private static void outside(String name, int least, int greatest, Asked asked) {
        SleptMatters taken = Twin.rich();
        Due.is(name + " " + least, asked.of(taken, least) < NONE ? 1 : 0, 0);
        Due.is(name + " " + greatest, asked.of(taken, greatest) < NONE ? 1 : 0, 0);
        int[] near = {least - 1, greatest + 1};
        for (int what : near) Twin.refusedByRich(name + " " + what, OUTSIDE, x -> asked.of(x, what));
        for (int what : Twin.FAR) Twin.refusedByRich(name + " " + what, OUTSIDE, x -> asked.of(x, what));
    }

    private static void outsideWhats() {
        outside("cheapest", 0, 2, (x, what) -> x.cheapest(1, what));
        outside("likeliest", 0, 2, (x, what) -> x.likeliest(1, what));
        outside("tried", 1, 7, (x, what) -> x.tried(1, what));
        outside("let on", 0, 99, (x, what) -> x.let(3, what, 0));
        outside("let", 0, 1, (x, what) -> x.let(3, 0, what));
        outside("together", 0, 2, (x, what) -> x.together(what));
        outside("ends together", 11, 12, (x, what) -> x.together(what));
    }

    private static SleptMatters seven(int a, int z, int nights) {
        return Due.with(SEVEN + "matter " + a + " " + z + " 100 1;", "nights " + nights + ";");
    }

    private static void soonestParts() {
        for (int k = 1; k <= 7; k++) {
            SleptMatters x = seven(0, 99, k);
            for (int i = 0; i < 2 * k; i++) Due.is("part " + i + " of " + k + " nights", x.soonest(0, i), i / 2);
            Due.is("behind the last of " + k, x.soonest(0, 2 * k), NONE);
            Due.is("behind the last of " + k + ", its house", x.soonest(0, 2 * k + 1), NONE);
        }
        SleptMatters x = seven(0, 99, 7);
        int[] none = {14, 15, 100, 1000000, Integer.MAX_VALUE, Integer.MAX_VALUE - 1, -2, -3, Integer.MIN_VALUE};
        for (int i : none) Due.is("soonest " + i, x.soonest(0, i), NONE);
    }

    private static void lastDayFromA() {
        for (int k = 1; k <= 7; k++) {
            Due.is("ends on 99 by " + k, seven(100 - k, 99, k).soonest(0, NONE), 99);
            Due.is("its last house by " + k, seven(100 - k, 99, k).soonest(0, 2 * k - 1), k - 1);
            if (k > 1) Due.is("would end on 100 by " + k, seven(101 - k, 99, k).soonest(0, NONE), NONE);
            if (k > 1) Due.is("no night of it by " + k, seven(101 - k, 99, k).soonest(0, 0), NONE);
            Due.is("tried: ends on 99 by " + k, seven(100 - k, 99, 1).tried(0, k), 99);
            if (k > 1) Due.is("tried: would end on 100 by " + k, seven(101 - k, 99, 1).tried(0, k), NONE);
            Due.is("cheapest on 99 by " + k, seven(100 - k, 99, k).cheapest(0, 1), 99);
            if (k > 1) Due.is("cheapest: would end on 100 by " + k, seven(101 - k, 99, k).cheapest(0, 1), NONE);
        }
    }

    private static void lastDayFromTheDay() {
        for (int k = 1; k <= 7; k++) {
            SleptMatters x = seven(0, 99, k);
            for (int i = 0; i < 100 - k; i++) x.night();
            everyEnd("the last row by " + k, x, k, 99);
            x.night();
            everyEnd("behind the last row by " + k, x, k, NONE);
            x.run(100);
            everyEnd("long behind all days by " + k, x, k, NONE);
        }
    }

    /** One of seven houses is calm on day 99 alone, so that a row of seven can end there and nowhere else. */
    private static void lastDayAlone() {
        for (int late = 0; late < 7; late++) {
            StringBuilder town = new StringBuilder();
            for (int h = 0; h < 7; h++) town.append("house ").append(h == late ? 1 : 0).append(" 1;sleeper 0 50 3;");
            SleptMatters x = Due.with(town + "noise 1 0 98 1;matter 0 99 100 1;matter 0 98 100 1;", "nights 7;");
            everyEnd("house " + late + " on 99 alone", x, 7, 99);
            Due.is("house " + late + " is the last", x.soonest(0, 13), late);
            Due.is("house " + late + ": by 98 there is none", x.cheapest(1, 0), NONE);
            Due.is("house " + late + ": six nights need it not", x.tried(0, 6), 5);
        }
    }

    /** One row alone can be had, up to this end; or none. */
    private static void everyEnd(String name, SleptMatters x, int k, int end) {
        Due.is(name + ": soonest", x.soonest(0, NONE), end);
        Due.is(name + ": a night", x.soonest(0, 2 * k - 2), end == NONE ? NONE : k - 1);
        Due.is(name + ": cheapest", x.cheapest(0, 1), end);
        Due.is(name + ": cheapest sum", x.cheapest(0, 0), end == NONE ? NONE : 3 * k);
        Due.is(name + ": cheapest set", x.cheapest(0, 2), end == NONE ? NONE : (1 << k) - 1);
        Due.is(name + ": likeliest", x.likeliest(0, 1), end);
        Due.is(name + ": likeliest set", x.likeliest(0, 2), end == NONE ? NONE : (1 << k) - 1);
        Due.is(name + ": together", x.together(11), end);
        Due.is(name + ": gain", x.together(0), end == NONE ? 0 : 100 - end + x.matter(0, 0));
        Due.is(name + ": stopped", x.stopped(0, NONE), end == NONE ? NONE : 1);
        Due.is(name + ": stopped on", x.stopped(0, 0), end);
        Due.is(name + ": tried", x.tried(0, k), end);
    }

    private static void soonestBehindZ() {
        SleptMatters x = seven(5, 5, 2);
        Due.is("soonest does not look at Z", x.soonest(0, NONE), 6);
        Due.is("tried does not look at Z", x.tried(0, 7), 11);
        Due.is("cheapest does", x.cheapest(0, 0), NONE);
        Due.is("likeliest does", x.likeliest(0, 0), NONE);
        Due.is("together does", x.together(11), NONE);
        Due.is("stopped does", x.stopped(0, NONE), NONE);
    }

    private static void asManySleepers() {
        for (int k = 1; k <= 7; k++) {
            SleptMatters x = Due.with(SEVEN_HOUSES + Due.times(k, "sleeper 0 50 3;") + "matter 0 99 100 1;", "nights " + k + ";");
            everyEndOfAllDays("as many sleepers as " + k, x, k);
            x = Due.with(SEVEN_HOUSES + Due.times(k - 1, "sleeper 0 50 3;") + "matter 0 99 100 1;", "nights " + k + ";");
            everyEnd("a sleeper less than " + k, x, k, NONE);
        }
    }

    private static void asManyHouses() {
        String sleepers = Due.times(7, "sleeper 0 50 3;");
        for (int k = 1; k <= 7; k++) {
            SleptMatters x = Due.with(Due.times(k, "house 0 1;") + sleepers + "matter 0 99 100 1;", "nights " + k + ";");
            everyEndOfAllDays("as many houses as " + k, x, k);
            x = Due.with(Due.times(k - 1, "house 0 4;") + sleepers + "matter 0 99 100 1;", "nights " + k + ";");
            everyEnd("a house less than " + k, x, k, NONE);
        }
    }

    /** Rows of k nights can be had on all days from 0 to 99. */
    private static void everyEndOfAllDays(String name, SleptMatters x, int k) {
        Due.is(name + ": soonest", x.soonest(0, NONE), k - 1);
        Due.is(name + ": cheapest", x.cheapest(0, 1), k - 1);
        Due.is(name + ": likeliest", x.likeliest(0, 1), k - 1);
        Due.is(name + ": together", x.together(11), k - 1);
        Due.is(name + ": tried", x.tried(0, k), k - 1);
        Due.is(name + ": stopped", x.stopped(0, NONE), 100 / k);
        Due.is(name + ": stopped first", x.stopped(0, 0), k - 1);
    }

    private static void calmAsLight() {
        for (int light = 0; light < 9; light++) {
            String town = "house 0 1;sleeper " + light + " 50 3;matter 0 99 100 1;";
            SleptMatters x = Due.with(town + "noise 0 0 98 " + (light + 1) + ";", "nights 1;");
            everyEnd("loud up to 98 above " + light, x, 1, 99);
            x = Due.with(town + "noise 0 0 99 " + (light + 1) + ";", "nights 1;");
            everyEnd("loud up to 99 above " + light, x, 1, NONE);
            if (light == 0) continue;
            x = Due.with(town + "noise 0 0 99 " + light + ";", "nights 1;");
            everyEndOfAllDays("as loud as " + light, x, 1);
        }
    }

    /** On each of three days one house alone is calm, one of the two twice: no row may have it twice. */
    private static void houseOnce() {
        for (int a = 0; a < 7; a++) {
            for (int b = 0; b < 7; b++) {
                if (a == b) continue;
                for (int day = 0; day < 3; day++) {
                    SleptMatters x = Due.with(twoHouses(a, b, day), "nights 3;");
                    Due.is("house " + a + " twice, " + b + " on " + day, x.soonest(0, NONE), day == 0 ? 4 : 3);
                    Due.is("house " + a + " and " + b + " are two", x.tried(0, 2), day == 2 ? 2 : 1);
                }
            }
        }
    }

    private static String twoHouses(int a, int b, int dayOfB) {
        StringBuilder town = new StringBuilder();
        for (int h = 0; h < 7; h++) town.append("house ").append(h == a ? 0 : h == b ? 1 : 2).append(" 1;sleeper 0 50 3;");
        for (int day = 0; day < 3; day++) {
            town.append("noise ").append(day == dayOfB ? 0 : 1).append(' ').append(day).append(' ').append(day).append(" 1;");
        }
        return town.append("noise 2 0 2 1;matter 0 99 0 0;").toString();
    }

    private static void sleeperOnce() {
        for (int a = 0; a < 7; a++) {
            for (int b = 0; b < 7; b++) {
                StringBuilder town = new StringBuilder(SEVEN_HOUSES);
                for (int s = 0; s < 7; s++) town.append("sleeper ").append(s == a || s == b ? 9 : 8).append(" 50 3;");
                town.append("noise 0 0 2 9;matter 0 99 0 0;");
                SleptMatters x = Due.with(town.toString(), "nights 3;");
                int calm = a == b ? 1 : 2;
                for (int k = 1; k <= 7; k++) {
                    int due = k <= calm ? k - 1 : 3 - calm + k - 1;
                    Due.is(k + " nights by " + a + " and " + b, x.tried(0, k), due);
                }
                Due.is("who alone is not woken is first", x.soonest(0, 0), Math.min(a, b));
            }
        }
    }

    private static void calmEveryOtherDay() {
        StringBuilder town = new StringBuilder("house 0 1;house 0 1;sleeper 0 0 0;sleeper 0 0 0;");
        for (int day = 0; day < 40; day += 2) town.append("noise 0 ").append(day).append(' ').append(day).append(" 9;");
        SleptMatters x = Due.with(town + "matter 0 41 0 0;", "nights 1;");
        Due.is("calm on 20 days and 2 more", x.stopped(0, NONE), 22);
        for (int i = 0; i < 20; i++) Due.is("calm day " + i, x.stopped(0, i), 2 * i + 1);
        Due.is("two side by side", x.tried(0, 2), 40);
        for (int day = 0; day < 40; day++) {
            Due.is("calm from " + day, x.soonest(0, NONE), day % 2 == 0 ? day + 1 : day);
            Due.is("calm from " + day + ": cheapest", x.cheapest(0, 1), day % 2 == 0 ? day + 1 : day);
            x.night();
        }
    }

    private static void mattersInTurn() {
        // On day 0 only sleeper 2 in house 2 is not woken, from day 1 on nobody is.
        String town = "house 0 1;house 0 1;house 1 1;sleeper 0 50 3;sleeper 0 50 3;sleeper 1 50 3;noise 0 0 0 9;noise 1 0 0 1;";
        SleptMatters x = Due.with(town + "matter 0 9 9 1;matter 1 9 9 1;", "nights 1;");
        for (int i = 0; i < 3; i++) {
            Due.is("in turn: sleeper of the first", x.soonest(0, 0), 2);
            Due.is("in turn: end of the second", x.soonest(1, NONE), 1);
            Due.is("in turn: sleeper of the second", x.soonest(1, 0), 0);
            Due.is("in turn: house of the first", x.soonest(0, 1), 2);
            Due.is("in turn: gain", x.together(0), 18);
            Due.is("in turn: house of the second", x.soonest(1, 1), 0);
            Due.is("in turn: tried", x.tried(0, 3), 2);
            Due.is("in turn: house of the first again", x.soonest(0, 1), 2);
        }
    }

    private static void nothingOfTheTownAhead() {
        SleptMatters x = Due.with("house 0 1;sleeper 9 99 1;sleeper 9 1 5;matter 0 9 0 0;", "nights 1;");
        Due.is("the town ahead: cheapest", x.cheapest(0, 2), 1);
        Due.town(x, "house 0 1;sleeper 0 99 1;sleeper 9 1 5;noise 0 0 9 1;matter 0 9 0 0;");
        Due.is("sleeper 0 is woken now: cheapest", x.cheapest(0, 2), 2);
        Due.is("sleeper 0 is woken now: likeliest", x.likeliest(0, 2), 2);
        Due.is("sleeper 0 is woken now: soonest", x.soonest(0, 0), 1);
        Due.town(x, "house 0 1;sleeper 0 99 1;noise 0 0 9 1;matter 0 9 0 0;");
        Due.is("nobody by Z now", x.cheapest(0, 2), NONE);
        Due.is("nobody by Z now: stopped", x.stopped(0, NONE), NONE);
        Due.is("nobody by Z now: soonest", x.soonest(0, NONE), 10);
    }

    private static void byZ() {
        for (int k = 1; k <= 7; k++) {
            for (int a = 0; a + k <= 100; a += 31) {
                int end = a + k - 1;
                everyByZ("Z just by " + k + " from " + a, seven(a, end, k), end);
                if (k > 1) everyByZ("Z too soon by " + k + " from " + a, seven(a, end - 1, k), NONE);
            }
        }
    }

    private static void everyByZ(String name, SleptMatters x, int end) {
        Due.is(name + ": cheapest", x.cheapest(0, 1), end);
        Due.is(name + ": likeliest", x.likeliest(0, 1), end);
        Due.is(name + ": together", x.together(11), end);
        Due.is(name + ": gain", x.together(0), end == NONE ? 0 : 100 - end + x.matter(0, 0));
        Due.is(name + ": stopped", x.stopped(0, NONE), end == NONE ? NONE : 1);
        Due.is(name + ": stopped on", x.stopped(0, 0), end);
        Due.is(name + ": no more", x.stopped(0, 1), NONE);
    }

    private static void byZFromTheDay() {
        SleptMatters x = seven(0, 12, 3);
        for (int i = 0; i < 10; i++) x.night();
        everyByZ("the last day on which it can begin", x, 12);
        x.night();
        everyByZ("a day too late", x, NONE);
        Due.is("a day too late: soonest", x.soonest(0, NONE), 13);
        x.begin();
        Due.is("begun again: cheapest", x.cheapest(0, 1), 2);
    }

    private static void cheapestBounds() {
        SleptMatters x = Due.with(SEVEN_HOUSES + Due.times(7, "sleeper 0 0 99;") + "matter 0 99 0 0;", "nights 7;");
        Due.is("the dearest row there is", x.cheapest(0, 0), 693);
        Due.is("all sleepers", x.cheapest(0, 2), 127);
        x = Due.with(SEVEN_HOUSES + Due.times(7, "sleeper 0 0 0;") + "matter 0 99 0 0;", "nights 7;");
        Due.is("a row for nothing is no NONE", x.cheapest(0, 0), 0);
        Due.is("a row for nothing: end", x.cheapest(0, 1), 6);
        x = Due.with("house 0 1;sleeper 0 0 0;matter 0 0 0 0;", "nights 1;");
        Due.is("on day 0", x.cheapest(0, 1), 0);
        Due.is("the least set", x.cheapest(0, 2), 1);
        x = Due.with("house 0 1;" + Due.times(6, "sleeper 0 0 1;") + "sleeper 0 0 0;matter 0 0 0 0;", "nights 1;");
        Due.is("the last sleeper alone", x.cheapest(0, 2), 64);
    }

    private static void cheapestLikeOnes() {
        // Sleepers 0 and 1 are woken on day 0 and cost as much as 2 and 3: the sooner end is ahead of the lesser set.
        String like = "house 0 1;house 0 1;sleeper 0 0 5;sleeper 0 0 5;sleeper 9 0 5;sleeper 9 0 5;noise 0 0 0 1;";
        SleptMatters x = Due.with(like + "matter 0 9 0 0;", "nights 2;");
        Due.is("like sums: sooner end", x.cheapest(0, 1), 1);
        Due.is("like sums, like ends: the least set", x.cheapest(0, 2), 5);
        // One less in wages is ahead of the sooner end.
        x = Due.with(like.replace("sleeper 0 0 5;sleeper 0 0 5;", "sleeper 0 0 4;sleeper 0 0 5;") + "matter 0 9 0 0;", "nights 2;");
        Due.is("a sum of one less", x.cheapest(0, 0), 9);
        x = Due.with("house 0 1;sleeper 0 0 4;sleeper 9 0 5;noise 0 0 8 1;matter 0 9 0 0;matter 0 8 0 0;", "nights 1;");
        Due.is("one less on the last day", x.cheapest(0, 1), 9);
        Due.is("by the day ahead it is too late", x.cheapest(1, 0), 5);
    }

    private static void likeliestBounds() {
        for (int must = 0; must <= 7; must++) {
            for (int k = 1; k <= 7; k += 3) {
                String sure = SEVEN_HOUSES + Due.times(7, "sleeper 0 100 0;") + "matter 0 99 0 0;";
                SleptMatters x = Due.with(sure, "nights " + k + ";yes " + must + ";");
                Due.is("sure, " + must + " of " + k, x.likeliest(0, 0), must <= k ? 1000000 : 0);
                x = Due.with(sure.replace(" 100 ", " 0 "), "nights " + k + ";yes " + must + ";");
                Due.is("never, " + must + " of " + k, x.likeliest(0, 0), must == 0 ? 1000000 : 0);
                Due.is("odds of 0 are no NONE: end", x.likeliest(0, 1), k - 1);
                Due.is("odds of 0 are no NONE: set", x.likeliest(0, 2), (1 << k) - 1);
            }
        }
        SleptMatters x = Due.with("house 0 1;sleeper 0 1 0;matter 0 0 0 0;", "nights 1;");
        Due.is("one of a hundred", x.likeliest(0, 0), 10000);
        x = Due.with(SEVEN_HOUSES + Due.times(7, "sleeper 0 1 0;") + "matter 0 99 0 0;", "nights 4;yes 4;");
        Due.is("cut to nothing", x.likeliest(0, 0), 0);
        x = Due.with(SEVEN_HOUSES + Due.times(7, "sleeper 0 1 0;") + "matter 0 99 0 0;", "nights 3;yes 3;");
        Due.is("one of a million", x.likeliest(0, 0), 1);
    }

    private static void likeliestLikeOnes() {
        String like = "house 0 1;house 0 1;sleeper 0 50 0;sleeper 0 50 0;sleeper 9 50 0;sleeper 9 50 0;noise 0 0 0 1;";
        SleptMatters x = Due.with(like + "matter 0 9 0 0;", "nights 2;yes 2;");
        Due.is("like odds", x.likeliest(0, 0), 250000);
        Due.is("like odds: sooner end", x.likeliest(0, 1), 1);
        Due.is("like odds, like ends: the least set", x.likeliest(0, 2), 5);
        x = Due.with("house 0 1;sleeper 0 51 0;sleeper 9 50 0;noise 0 0 8 1;matter 0 9 0 0;matter 0 8 0 0;", "nights 1;");
        Due.is("a little more on the last day", x.likeliest(0, 0) + x.likeliest(0, 1), 510009);
        Due.is("by the day ahead it is too late", x.likeliest(1, 0) + x.likeliest(1, 1), 500000);
    }

    private static void togetherWhats() {
        for (int matters = 0; matters <= 3; matters++) {
            String town = SEVEN + Due.times(matters, "matter 0 99 10 1;");
            SleptMatters x = Due.with(town, "nights 1;");
            Due.is("gain of " + matters, x.together(0), 10 * matters);
            for (int k = 0; k < 10; k++) Due.is("place " + k + " of " + matters, x.together(1 + k), k < matters ? k : OUTSIDE);
            for (int m = 0; m < 10; m++) Due.is("end " + m + " of " + matters, x.together(11 + m), m < matters ? 0 : OUTSIDE);
            int all = matters;
            Twin.refused("together behind the last", OUTSIDE, () -> Due.with(town, ""), y -> y.together(1 + all));
            Twin.refused("together behind the last end", OUTSIDE, () -> Due.with(town, ""), y -> y.together(11 + all));
        }
    }

    private static void togetherByZ() {
        // One sleeper and one bed: matter by matter, a day each.
        String one = "house 0 1;sleeper 0 0 0;";
        SleptMatters x = Due.with(one + "matter 0 2 10 1;matter 0 2 10 1;matter 0 2 10 1;", "nights 1;");
        Due.is("three by day 2", x.together(0), 30 - 3);
        Due.is("the third on its Z", x.together(13), 2);
        x = Due.with(one + "matter 0 1 10 1;matter 0 1 10 1;matter 0 1 10 1;", "nights 1;");
        Due.is("two by day 1", x.together(0), 20 - 1);
        Due.is("the third has none", x.together(13), NONE);
        // One that has no row to its Z takes nothing from those behind it.
        x = Due.with("house 0 1;house 0 1;sleeper 0 0 0;sleeper 0 0 0;matter 0 0 99 0;matter 0 1 10 0;", "nights 2;");
        Due.is("none is taken", x.together(11), NONE);
        Due.is("the other has all", x.together(12), 1);
        Due.is("the lesser is ahead all the same", x.together(1), 0);
        Due.is("gain of the other", x.together(0), 10);
        // A row is taken even if it costs more than it is worth.
        x = Due.with("house 0 1;sleeper 0 0 0;noise 0 0 98 1;matter 0 99 0 99;", "nights 1;");
        Due.is("the least gain there is", x.together(0), -99 * 99);
        x = Due.with(SEVEN + Due.times(3, "matter 99 99 999 99;"), "nights 1;");
        Due.is("the greatest gain there is", x.together(0), 2997);
    }

    private static void togetherBeds() {
        for (int beds = 1; beds <= 4; beds++) {
            SleptMatters x = Due.with("house 0 " + beds + ";" + Due.times(7, "sleeper 0 0 0;") + Due.times(3, "matter 0 0 10 0;"), "nights 1;");
            Due.is("beds: " + beds, x.together(0), 10 * Math.min(3, beds));
        }
        for (int sleepers = 1; sleepers <= 4; sleepers++) {
            SleptMatters x = Due.with("house 0 4;" + Due.times(sleepers, "sleeper 0 0 0;") + Due.times(3, "matter 0 0 10 0;"), "nights 1;");
            Due.is("sleepers: " + sleepers, x.together(0), 10 * Math.min(3, sleepers));
        }
    }

    private static void togetherLikeOnes() {
        String one = "house 0 1;sleeper 0 0 0;";
        SleptMatters x = Due.with(one + "matter 0 9 10 1;matter 0 9 10 1;matter 0 9 10 1;", "nights 1;");
        for (int k = 0; k < 3; k++) Due.is("like orders: the lesser ahead " + k, x.together(1 + k), k);
        x = Due.with(one + "matter 0 9 10 1;matter 0 9 10 1;matter 0 9 10 2;", "nights 1;");
        int[] due = {2, 0, 1};
        for (int k = 0; k < 3; k++) Due.is("one more for the last " + k, x.together(1 + k), due[k]);
    }

    private static void stoppedBounds() {
        for (int k = 1; k <= 7; k++) {
            for (int days = 1; days <= 100; days += 33) {
                SleptMatters x = seven(0, days - 1, k);
                int due = days / k;
                Due.is("stopped " + days + " days by " + k, x.stopped(0, NONE), due == 0 ? NONE : due);
                Due.is("its first", x.stopped(0, 0), due == 0 ? NONE : k - 1);
                // With no day at all this asks for how many there are.
                Due.is("its last", x.stopped(0, due - 1), due == 0 ? NONE : due * k - 1);
                Due.is("behind its last", x.stopped(0, due), NONE);
            }
        }
        SleptMatters x = seven(99, 99, 1);
        Due.is("one day alone", x.stopped(0, NONE), 1);
        Due.is("it is 99", x.stopped(0, 0), 99);
    }

    private static void stoppedParts() {
        SleptMatters x = seven(0, 99, 1);
        for (int i = 0; i < 100; i += 11) Due.is("loud day " + i, x.stopped(0, i), i);
        int[] none = {100, 101, 1000000, Integer.MAX_VALUE, -2, -3, Integer.MIN_VALUE};
        for (int i : none) Due.is("loud day " + i, x.stopped(0, i), NONE);
        // A day that is loud already parts the rows; none is needed where none can be.
        x = Due.with(SEVEN + "noise 0 3 3 1;matter 0 9 0 0;", "nights 3;");
        Due.is("rows 0 .. 2 and 4 .. 9", x.stopped(0, NONE), 3);
        int[] due = {2, 6, 9};
        for (int i = 0; i < 3; i++) Due.is("parted " + i, x.stopped(0, i), due[i]);
        x = Due.with(SEVEN + "noise 0 2 2 1;matter 0 8 0 0;", "nights 3;");
        Due.is("rows 3 .. 8 alone", x.stopped(0, NONE), 2);
        Due.is("as late as may be", x.stopped(0, 0), 5);
        Due.is("as late as may be, each", x.stopped(0, 1), 8);
        x = Due.with(SEVEN + "noise 0 0 99 1;matter 0 99 0 0;", "nights 1;");
        Due.is("no row without them", x.stopped(0, NONE), NONE);
        Due.is("no row without them: no day", x.stopped(0, 0), NONE);
    }

    private static void triedBounds() {
        SleptMatters x = seven(0, 99, 7);
        for (int k = 1; k <= 7; k++) Due.is("tried " + k, x.tried(0, k), k - 1);
        Due.is("tried 0", x.tried(0, 0), OUTSIDE);
        Due.is("tried 8", x.tried(0, 8), OUTSIDE);
        Due.is("LAW is as it was", x.told(3), 7);
        Due.is("tried as by LAW", x.tried(0, 7), x.soonest(0, NONE));
        Due.laws(x, "nights 1;");
        Due.is("more than by LAW", x.tried(0, 7), 6);
    }

    private static void letBounds() {
        SleptMatters x = Due.with("house 0 2;sleeper 0 0 0;noise 0 1 98 1;", "");
        int[] days = {0, 1, 98, 99};
        int[] beds = {2, 0, 0, 2};
        for (int i = 0; i < days.length; i++) {
            Due.is("beds on " + days[i], x.let(0, days[i], 0), beds[i]);
            Due.is("house on " + days[i], x.let(0, days[i], 1), beds[i] == 0 ? NONE : 0);
        }
        int[] near = {-1, 4};
        for (int s : near) Twin.refusedByRich("let to " + s, UNKNOWN, y -> y.let(s, 0, 0));
        for (int s : Twin.FAR) Twin.refusedByRich("let to " + s, UNKNOWN, y -> y.let(s, 0, 0));
        for (int light = 0; light < 9; light++) {
            x = Due.with("house 0 3;sleeper " + light + " 0 0;noise 0 0 0 " + (light + 1) + ";noise 0 1 1 " + Math.max(1, light) + ";", "");
            Due.is("above LIGHT " + light, x.let(0, 0, 0), 0);
            Due.is("as LIGHT " + light, x.let(0, 1, 0), light == 0 ? 0 : 3);
        }
    }

    private static void letBeds() {
        SleptMatters x = Due.with(Due.times(7, "house 0 4;") + Due.times(7, "sleeper 0 0 0;"), "");
        Due.is("all the beds there may be", x.let(6, 0, 0), 28);
        Due.is("of like ones the least", x.let(6, 0, 1), 0);
        x = Due.with(Due.times(6, "house 0 3;") + "house 0 4;sleeper 0 0 0;", "");
        Due.is("of the most beds, though the last", x.let(0, 0, 1), 6);
        x = Due.with("house 0 1;house 1 1;house 2 4;sleeper 0 0 0;noise 2 0 0 1;", "");
        Due.is("of the most beds where it is calm", x.let(0, 0, 1), 0);
        Due.is("the day behind", x.let(0, 1, 1), 2);
        x = Due.with("sleeper 0 0 0;", "");
        Due.is("no houses: beds", x.let(0, 0, 0), 0);
        Due.is("no houses: house", x.let(0, 0, 1), NONE);
    }

    /** An object is used for 512 calls: up to the last the answers hold. */
    private static void askedOftenAtTheBounds() {
        SleptMatters x = seven(0, 99, 7);
        // What seven() has called already: feed for the town and for laws, town(), laws().
        int fed = ((SEVEN + "matter 0 99 100 1;").length() + 7) / 8 + 1 + 2 + 1;
        int calls = 512 - fed;
        for (int i = 0; i + 4 < calls; i += 5) {
            Due.is("often: soonest", x.soonest(0, 13), 6);
            Due.is("often: cheapest", x.cheapest(0, 0), 21);
            Due.is("often: likeliest", x.likeliest(0, 2), 127);
            Due.is("often: together", x.together(0), 94);
            Due.is("often: stopped", x.stopped(0, 13), 97);
        }
    }
}
