/** Promises 16 to 22: rows, the best order, loud days, a law that is tried, beds that are let. */
public final class RowsTest {
    private static final String THREE = "house 0 1;house 1 1;house 2 1;sleeper 0 50 9;sleeper 0 50 5;sleeper 0 50 7;";

    public static void main(String[] args) {
        soonest();
        soonestLooksAhead();
        soonestToTheEnd();
        cheapest();
        likeliest();
        oddsAreCut();
        together();
        togetherOrders();
        stopped();
        tried();
        let();
        dearestTown();
        Due.end();
    }

    private static void row(String name, SleptMatters x, int m, int end, int... pairs) {
        Due.is(name + ": end", x.soonest(m, SleptMatters.NONE), end);
        for (int i = 0; i < pairs.length; i++) Due.is(name + ": " + i, x.soonest(m, i), pairs[i]);
        Due.is(name + ": no more", x.soonest(m, pairs.length), SleptMatters.NONE);
        Due.is(name + ": far", x.soonest(m, Integer.MAX_VALUE), SleptMatters.NONE);
        Due.is(name + ": below NONE", x.soonest(m, -2), SleptMatters.NONE);
        Due.is(name + ": least", x.soonest(m, Integer.MIN_VALUE), SleptMatters.NONE);
    }

    private static void soonest() {
        SleptMatters x = Due.with(THREE + "matter 4 5 1 1;", "nights 3;");
        row("soonest", x, 0, 6, 0, 0, 1, 1, 2, 2);
        Due.is("soonest unknown", x.soonest(1, -1), SleptMatters.UNKNOWN);
        Due.is("soonest unknown below", x.soonest(-1, -1), SleptMatters.UNKNOWN);
        x.run(2);
        row("soonest from A", x, 0, 6, 0, 0, 1, 1, 2, 2);
        x.run(3);
        Due.is("what counts", x.matter(0, 4), 1);
        row("soonest from THE DAY, what counts is not looked at", x, 0, 7, 0, 0, 1, 1, 2, 2);
        x.lay(0, 1, 1);
        row("who is laid is not looked at", x, 0, 7, 0, 0, 1, 1, 2, 2);
        Due.laws(x, "nights 4;");
        row("more nights than sleepers", x, 0, SleptMatters.NONE);
        row("no houses", Due.with("sleeper 0 0 0;matter 0 9 1 1;", "nights 1;"), 0, SleptMatters.NONE);
        row("two beds are one house", Due.with("house 0 4;sleeper 0 0 0;sleeper 0 0 0;matter 0 9 1 1;", "nights 2;"), 0, SleptMatters.NONE);
    }

    private static void soonestLooksAhead() {
        // Day 1 is loud all over but in street 2 for sleeper 2, who must wait for it with house 2.
        SleptMatters x = Due.with("house 2 1;house 1 1;house 0 1;sleeper 9 0 0;sleeper 1 0 0;sleeper 0 0 0;"
            + "noise 0 1 1 9;noise 0 1 1 1;noise 1 1 1 9;noise 1 1 1 1;noise 2 1 1 1;matter 0 9 1 1;", "nights 3;");
        row("house 0 is kept for day 1", x, 0, 2, 0, 1, 1, 0, 2, 2);
        x = Due.with("house 0 1;house 0 1;sleeper 9 0 0;sleeper 0 0 0;noise 0 1 1 1;matter 0 9 1 1;", "nights 2;");
        row("sleeper 0 is kept for day 1", x, 0, 1, 1, 0, 0, 1);
        x = Due.with(Due.times(6, "house 0 1;") + "house 1 1;sleeper 0 0 0;sleeper 9 0 0;noise 0 0 0 5;noise 0 1 1 9;noise 0 1 1 9;"
            + "matter 0 9 1 1;", "nights 2;");
        row("house 6 is kept for day 1", x, 0, 1, 1, 0, 0, 6);
        x = Due.with("house 0 1;sleeper 0 0 0;noise 0 0 20 1;noise 0 40 60 1;matter 0 9 1 1;", "nights 1;");
        row("calm behind many loud days", x, 0, 21, 0, 0);
        x.run(40);
        row("loud behind many calm days", x, 0, 61, 0, 0);
        x = Due.with(THREE + "noise 0 0 99 1;matter 0 9 1 1;", "nights 3;");
        row("a house is never calm", x, 0, SleptMatters.NONE);
        x = Due.with(THREE + "noise 0 2 2 1;noise 1 2 2 1;noise 2 2 2 1;matter 0 9 1 1;", "nights 3;");
        row("one loud day", x, 0, 5, 0, 0, 1, 1, 2, 2);
    }

    private static void soonestToTheEnd() {
        SleptMatters x = Due.with(THREE + "matter 97 99 1 1;matter 98 99 1 1;matter 0 0 1 1;", "nights 3;");
        row("ends on 99", x, 0, 99, 0, 0, 1, 1, 2, 2);
        row("would end on 100", x, 1, SleptMatters.NONE);
        row("Z is not looked at", x, 2, 2, 0, 0, 1, 1, 2, 2);
        x.run(97);
        row("from 97", x, 2, 99, 0, 0, 1, 1, 2, 2);
        x.run(100);
        row("behind all days", x, 2, SleptMatters.NONE);
        Due.is("cheapest behind all days", x.cheapest(0, 0), SleptMatters.NONE);
        Due.is("stopped behind all days", x.stopped(0, -1), SleptMatters.NONE);
        Due.is("together behind all days", x.together(0), 0);
    }

    private static void cheapest() {
        SleptMatters x = Due.with(THREE + "matter 0 9 1 1;", "nights 2;");
        Due.is("cheapest: sum", x.cheapest(0, 0), 12);
        Due.is("cheapest: end", x.cheapest(0, 1), 1);
        Due.is("cheapest: set", x.cheapest(0, 2), 6);
        Due.is("cheapest: unknown", x.cheapest(1, 9), SleptMatters.UNKNOWN);
        Due.is("cheapest: outside", x.cheapest(0, 3), SleptMatters.OUTSIDE);
        Due.is("cheapest: outside below", x.cheapest(0, -1), SleptMatters.OUTSIDE);
        // The cheap ones wake up to day 5: they are waited for up to Z.
        String light = "house 0 1;house 0 1;sleeper 9 0 50;sleeper 9 0 50;sleeper 0 0 1;sleeper 0 0 1;noise 0 0 5 1;";
        x = Due.with(light + "matter 0 7 1 1;matter 0 6 1 1;matter 0 0 1 1;", "nights 2;");
        Due.is("cheapest waits", x.cheapest(0, 0), 2);
        Due.is("cheapest waits: end", x.cheapest(0, 1), 7);
        Due.is("cheapest waits: set", x.cheapest(0, 2), 12);
        Due.is("one of both by 6", x.cheapest(1, 0), 51);
        Due.is("one of both by 6: end", x.cheapest(1, 1), 6);
        Due.is("one of both by 6: least set", x.cheapest(1, 2), 5);
        for (int i = 0; i < 3; i++) Due.is("no row to Z " + i, x.cheapest(2, i), SleptMatters.NONE);
        // All cost the same: 12 could end on 7, 3 ends on 1.
        x = Due.with(light.replace("50", "1") + "matter 0 7 1 1;", "nights 2;");
        Due.is("like ones: sooner end", x.cheapest(0, 1), 1);
        Due.is("like ones: set", x.cheapest(0, 2), 3);
        String seven = Due.times(7, "house 0 1;") + Due.times(4, "sleeper 0 0 9;") + Due.times(3, "sleeper 0 0 2;");
        x = Due.with(seven + "matter 0 9 1 1;", "nights 3;");
        Due.is("the last ones", x.cheapest(0, 2), 112);
        Due.town(x, THREE + "matter 3 9 1 1;");
        Due.is("another town: set", x.cheapest(0, 2), 7);
        Due.town(x, seven + "noise 0 2 2 1;matter 0 9 1 1;");
        Due.is("one more town: end", x.cheapest(0, 1), 5);
        Due.town(x, seven.replace(" 9;", " 1;") + "matter 0 9 1 1;");
        Due.laws(x, "nights 4;");
        Due.is("the first ones: sum", x.cheapest(0, 0), 4);
        Due.is("the first ones: set", x.cheapest(0, 2), 15);
        Due.laws(x, "nights 7;");
        Due.is("all of them", x.cheapest(0, 2), 127);
        x = Due.with("house 0 1;sleeper 0 0 4;sleeper 9 0 4;sleeper 9 0 4;noise 0 0 0 1;matter 0 7 1 1;", "nights 1;");
        Due.is("sooner is ahead of the lesser set", x.cheapest(0, 2), 2);
    }

    private static void likeliest() {
        String four = "house 0 1;house 0 1;sleeper 9 10 0;sleeper 9 20 0;sleeper 0 90 0;sleeper 0 80 0;noise 0 0 5 1;";
        SleptMatters x = Due.with(four + "matter 0 7 1 1;matter 0 6 1 1;matter 0 0 1 1;", "nights 2;yes 2;");
        Due.is("likeliest", x.likeliest(0, 0), 720000);
        Due.is("likeliest: end", x.likeliest(0, 1), 7);
        Due.is("likeliest: set", x.likeliest(0, 2), 12);
        Due.is("by 6", x.likeliest(1, 0), 180000);
        Due.is("by 6: set", x.likeliest(1, 2), 6);
        for (int i = 0; i < 3; i++) Due.is("no row to Z " + i, x.likeliest(2, i), SleptMatters.NONE);
        Due.is("likeliest: unknown", x.likeliest(3, 9), SleptMatters.UNKNOWN);
        Due.is("likeliest: outside", x.likeliest(0, 3), SleptMatters.OUTSIDE);
        Due.is("likeliest: outside below", x.likeliest(0, -1), SleptMatters.OUTSIDE);
        Due.laws(x, "nights 2;yes 1;");
        Due.is("one or more", x.likeliest(0, 0), 980000);
        Due.laws(x, "nights 2;yes 0;");
        Due.is("none needed", x.likeliest(0, 0), 1000000);
        Due.is("none needed: the soonest", x.likeliest(0, 1), 1);
        Due.is("none needed: set", x.likeliest(0, 2), 3);
        Due.laws(x, "nights 2;yes 3;");
        Due.is("more than there are", x.likeliest(0, 0), 0);
        Due.is("more than there are: the soonest", x.likeliest(0, 1), 1);
        Due.laws(x, "nights 2;yes 7;");
        Due.is("far more than there are", x.likeliest(0, 0), 0);
        x = Due.with(Due.times(7, "house 0 1;sleeper 0 100 0;") + "matter 0 9 1 1;", "nights 7;yes 7;");
        Due.is("seven of seven", x.likeliest(0, 0), 1000000);
        Due.is("seven of seven: set", x.likeliest(0, 2), 127);
    }

    private static void oddsAreCut() {
        // 1000000: 330000 yes; then 670000 * 7 = 46900, 330000 * 7 = 23100; then of 33 in turn what is cut.
        SleptMatters x = Due.with("house 0 1;house 0 1;house 0 1;house 0 1;sleeper 0 33 0;sleeper 0 7 0;sleeper 0 33 0;sleeper 0 33 0;"
            + "matter 0 9 1 1;", "nights 4;yes 4;");
        // 330000 * 7 / 100 = 23100; * 33 / 100 = 7623; * 33 / 100 = 2515 (2515.59).
        Due.is("odds are cut", x.likeliest(0, 0), 2515);
        Due.laws(x, "nights 4;yes 3;");
        // Three of three: 7623; two of three: 46900 * 33 / 100 = 15477 and 330000 - 23100 = 306900 with the other 46900:
        // one of two: 353800, none: 623100. Three sleepers: two: 23100 - 7623 + 353800 * 33 / 100 = 15477 + 116754 = 132231.
        // Four: three or more: 7623 + 132231 * 33 / 100 = 7623 + 43636 (43636.23).
        Due.is("odds of three or more", x.likeliest(0, 0), 7623 + 43636);
    }

    private static void together() {
        String shared = "house 0 1;house 0 1;sleeper 0 0 0;sleeper 0 0 0;";
        SleptMatters x = Due.with(shared + "matter 0 1 10 1;matter 0 3 20 2;matter 0 9 30 3;", "nights 2;");
        // The sleepers of two rows may take turns: rows 0-0 1-1 and 1-1 0-0 stand beside one another.
        Due.is("together: the second waits", x.together(0), 10 - 1 + 30 - 3 + 20 - 6);
        int[] order = {0, 2, 1};
        for (int i = 0; i < 3; i++) Due.is("together: order " + i, x.together(1 + i), order[i]);
        Due.is("together: end 0", x.together(11), 1);
        Due.is("together: end 1", x.together(12), 3);
        Due.is("together: end 2", x.together(13), 1);
        int[] outside = {-1, 4, 10, 14, Integer.MIN_VALUE, Integer.MAX_VALUE};
        for (int o : outside) Due.is("together " + o, x.together(o), SleptMatters.OUTSIDE);
        // One house of one bed and one sleeper: a matter a day.
        x = Due.with("house 0 1;sleeper 0 0 0;matter 0 0 5 0;matter 0 0 7 0;", "nights 1;");
        Due.is("together: the dearer one", x.together(0), 7);
        Due.is("together: it is ahead", x.together(1), 1);
        Due.is("together: the other has none", x.together(11), SleptMatters.NONE);
        Due.is("together: no third", x.together(3), SleptMatters.OUTSIDE);
        Due.is("together: no end of a third", x.together(13), SleptMatters.OUTSIDE);
        x = Due.with("house 0 2;sleeper 0 0 0;sleeper 0 0 0;matter 0 0 5 0;matter 0 0 7 0;", "nights 1;");
        Due.is("together: two beds", x.together(0), 12);
        x = Due.with("house 0 1;sleeper 0 0 0;sleeper 0 0 0;matter 0 0 5 0;matter 0 0 7 0;", "nights 1;");
        Due.is("together: one bed", x.together(0), 7);
        x = Due.with("house 0 2;house 0 2;sleeper 0 0 0;matter 0 0 5 0;matter 0 0 7 0;", "nights 1;");
        Due.is("together: one sleeper", x.together(0), 7);
        x = Due.with("house 0 4;house 0 4;sleeper 9 0 0;sleeper 0 0 0;sleeper 0 0 0;noise 0 0 0 1;matter 0 1 9 0;matter 0 1 9 0;", "nights 2;");
        Due.is("together: who alone can sleep on day 0 is taken", x.together(12), SleptMatters.NONE);
        x = Due.with("house 0 1;house 1 4;house 1 4;" + Due.times(4, "sleeper 0 0 0;") + "noise 1 0 0 1;matter 0 1 9 0;matter 0 1 9 0;", "nights 2;");
        Due.is("together: the bed that alone is calm on day 0 is taken", x.together(12), SleptMatters.NONE);
        x = Due.with("house 0 4;house 0 1;sleeper 0 0 0;sleeper 0 0 0;matter 0 9 9 1;matter 0 9 9 1;matter 0 9 9 1;", "nights 1;");
        Due.is("together: two sleepers for three", x.together(0), 27 - 1);
        x = Due.with("house 0 2;sleeper 0 0 0;sleeper 0 0 0;sleeper 0 0 0;matter 0 9 9 1;matter 0 9 9 1;matter 0 9 9 1;", "nights 1;");
        Due.is("together: two beds for three", x.together(13), 1);
        x = Due.with("house 0 1;house 0 1;sleeper 0 0 0;sleeper 0 0 0;matter 2 9 9 1;matter 0 9 9 0;matter 1 9 9 3;", "nights 2;");
        // 2 on days 1 and 2; 0 on 2 and 3 with those that are left there; 1 on 3 and 4, or ahead of all on 0 and 1.
        Due.is("together: rows that lap", x.together(0), 27 - 1 - 3);
        Due.is("together: no matters", Due.with(shared, "").together(0), 0);
        Due.is("together: no order of none", Due.with(shared, "").together(1), SleptMatters.OUTSIDE);
    }

    private static void togetherOrders() {
        String one = "house 0 1;sleeper 0 0 0;";
        int[][] costs = {{1, 2, 3, 2, 1, 0}, {3, 2, 1, 0, 1, 2}, {2, 3, 1, 1, 0, 2}, {2, 1, 3, 2, 0, 1}, {1, 3, 2, 1, 2, 0}, {3, 1, 2, 0, 2, 1},
            {1, 1, 1, 0, 1, 2}};
        for (int[] c : costs) {
            SleptMatters x = Due.with(one + "matter 0 9 1 " + c[0] + ";matter 0 9 1 " + c[1] + ";matter 0 9 1 " + c[2] + ";", "nights 1;");
            for (int k = 0; k < 3; k++) Due.is("order " + k + " by costs " + c[0] + c[1] + c[2], x.together(1 + k), c[3 + k]);
            for (int k = 0; k < 3; k++) Due.is("end of the one at " + k, x.together(11 + c[3 + k]), k);
        }
        SleptMatters x = Due.with(one + "matter 0 9 1 50;matter 0 9 1 99;", "nights 1;");
        Due.is("a row is taken though it costs", x.together(0), 2 - 50);
        x.night();
        Due.is("it has grown dearer", x.together(0), 2 - 99 - 100);
        x.begin();
        Due.is("as at first", x.together(0), 2 - 50);
        Due.laws(x, "nights 2;");
        Due.is("none has a row", x.together(0), 0);
        Due.is("the lesser ahead", x.together(1), 0);
        Due.town(x, one + one + "matter 0 9 5 1;");
        Due.is("another town", x.together(0), 4);
        x = Due.with(one + "matter 0 0 5 0;", "nights 1;");
        x.run(1);
        x.goBack(0);
        Due.is("decided, too late", x.together(0), 0);
        x = Due.with(one + "matter 0 1 5 0;", "nights 1;");
        x.run(1);
        Due.is("decided ones are looked at, too", x.together(0), 5);
    }

    private static void stopped() {
        SleptMatters x = Due.with(THREE + "noise 0 5 5 1;noise 1 5 5 1;noise 2 5 5 1;matter 0 12 1 1;matter 0 1 1 1;", "nights 3;");
        // Rows end on 2, 3, 4 and 8 to 12: loud on 2 and 8 and 11.
        Due.is("stopped: how many", x.stopped(0, SleptMatters.NONE), 3);
        int[] due = {2, 8, 11, SleptMatters.NONE};
        for (int i = 0; i < due.length; i++) Due.is("stopped " + i, x.stopped(0, i), due[i]);
        Due.is("stopped below NONE", x.stopped(0, -2), SleptMatters.NONE);
        Due.is("stopped far", x.stopped(0, Integer.MAX_VALUE), SleptMatters.NONE);
        Due.is("stopped: no row", x.stopped(1, SleptMatters.NONE), SleptMatters.NONE);
        Due.is("stopped: no row, first", x.stopped(1, 0), SleptMatters.NONE);
        Due.is("stopped: unknown", x.stopped(2, 0), SleptMatters.UNKNOWN);
        Due.laws(x, "nights 1;");
        Due.is("stopped: each day", x.stopped(0, SleptMatters.NONE), 12);
        Due.is("stopped: but the loud one", x.stopped(0, 5), 6);
        x.run(9);
        Due.is("stopped from THE DAY", x.stopped(0, 0), 9);
        Due.is("stopped from THE DAY: how many", x.stopped(0, SleptMatters.NONE), 4);
    }

    private static void tried() {
        SleptMatters x = Due.with(THREE + "noise 0 2 2 1;noise 1 2 2 1;noise 2 2 2 1;matter 0 9 1 1;matter 98 99 1 1;", "nights 3;");
        int[] due = {SleptMatters.OUTSIDE, 0, 1, 5, SleptMatters.NONE, SleptMatters.NONE, SleptMatters.NONE, SleptMatters.NONE, SleptMatters.OUTSIDE};
        for (int i = 0; i < due.length; i++) Due.is("tried " + i, x.tried(0, i), due[i]);
        Due.is("tried 2 to the end", x.tried(1, 2), 99);
        Due.is("tried 3 beyond", x.tried(1, 3), SleptMatters.NONE);
        Due.is("tried: unknown", x.tried(2, 0), SleptMatters.UNKNOWN);
        Due.is("tried: unknown below", x.tried(-1, 1), SleptMatters.UNKNOWN);
        Due.is("tried: law stays", x.told(3), 3);
    }

    private static void let() {
        SleptMatters x = Due.with("house 0 2;house 1 3;house 2 3;house 1 1;sleeper 2 0 0;sleeper 9 0 0;noise 1 1 1 3;noise 0 2 2 3;noise 1 2 2 3;"
            + "noise 2 2 2 3;noise 3 2 2 3;matter 0 9 1 1;", "nights 1;");
        Due.is("let: beds", x.let(0, 0, 0), 9);
        Due.is("let: the least of the roomiest", x.let(0, 0, 1), 1);
        Due.is("let: beds where it is calm", x.let(0, 1, 0), 5);
        Due.is("let: house where it is calm", x.let(0, 1, 1), 2);
        Due.is("let: no beds", x.let(0, 2, 0), 0);
        Due.is("let: no house", x.let(0, 2, 1), SleptMatters.NONE);
        Due.is("let: another sleeper", x.let(1, 2, 0), 9);
        x.lay(0, 0, 1);
        Due.is("let: who is laid is not looked at", x.let(0, 0, 0), 9);
        Due.is("let: unknown", x.let(2, 100, 9), SleptMatters.UNKNOWN);
        Due.is("let: unknown below", x.let(-1, 0, 0), SleptMatters.UNKNOWN);
        int[][] outside = {{-1, 0}, {100, 0}, {0, -1}, {0, 2}};
        for (int[] o : outside) Due.is("let " + o[0] + " " + o[1], x.let(0, o[0], o[1]), SleptMatters.OUTSIDE);
        Due.is("let on 99", x.let(0, 99, 0), 9);
    }

    /** The calls that work hardest, often: they must end soon and leave nothing behind on the heap. */
    private static void dearestTown() {
        StringBuilder text = new StringBuilder();
        for (int i = 0; i < 7; i++) text.append("house").append(i % 4).append(" 1;sleeper").append(i).append(" 50 ").append(i).append(';');
        for (int i = 0; i < 17; i++) text.append("noise").append(i % 4).append(' ').append(i * 5).append(' ').append(i * 5).append(" 7;");
        SleptMatters x = Due.with(text + "matter0 99 9 1;matter0 99 9 1;matter0 99 9 1;", "nights 7;");
        for (int i = 0; i < 100; i++) {
            x.night();
            x.together(0);
            x.cheapest(0, 0);
            x.likeliest(1, 0);
            x.soonest(2, 0);
        }
        Due.is("dearest: day", x.told(6), 100);
    }
}
