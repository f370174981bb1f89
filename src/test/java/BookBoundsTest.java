/** The bounds of promises 23 to 28: how long the book is, what is wrong in it, seeds, images. */
public final class BookBoundsTest {
    private static final int NONE = SleptMatters.NONE, UNKNOWN = SleptMatters.UNKNOWN, OUTSIDE = SleptMatters.OUTSIDE;
    private static final String SEVEN = Due.times(7, "house 0 1;sleeper 0 50 3;");

    public static void main(String[] args) {
        writeUnknown();
        writeOutside();
        writeFull();
        tearBounds();
        judgeUnknown();
        judgeFirstByA();
        judgeDayBehind();
        judgeAgain();
        judgeWoken();
        judgeAllOfTheBook();
        seedBounds();
        keepBounds();
        goBackNotKept();
        imagesApart();
        imagesOfTheFirstDay();
        imagesBehindFaults();
        Due.end();
    }

    private static void writeUnknown() {
        int[][] near = {{0, -1, 0}, {0, 4, 0}, {0, 0, -1}, {0, 0, 3}};
        for (int[] n : near) Twin.refusedByRich("write " + n[1] + " " + n[2], UNKNOWN, x -> x.write(n[0], n[1], n[2]));
        for (int far : Twin.FAR) {
            Twin.refusedByRich("write sleeper " + far, UNKNOWN, x -> x.write(5, far, 0));
            Twin.refusedByRich("write house " + far, UNKNOWN, x -> x.write(5, 0, far));
        }
        Twin.refusedByRich("UNKNOWN ahead of OUTSIDE", UNKNOWN, x -> x.write(-1, 4, 0));
        Twin.refusedByRich("UNKNOWN ahead of OUTSIDE, house", UNKNOWN, x -> x.write(1000, 0, 3));
        Due.is("write the last of each", Twin.rich().write(0, 3, 2), 4);
        SleptMatters x = Due.with(SEVEN, "");
        Due.is("write the last there may be", x.write(0, 6, 6), 1);
        Due.is("write behind the last sleeper", x.write(0, 7, 6), UNKNOWN);
        Due.is("write behind the last house", x.write(0, 6, 7), UNKNOWN);
    }

    private static void writeOutside() {
        SleptMatters x = Twin.rich();
        Due.is("write on day 0", x.write(0, 0, 0), 4);
        Due.is("write on day 999", x.write(999, 0, 0), 5);
        int[] near = {-1, 1000};
        for (int day : near) Twin.refusedByRich("write on " + day, OUTSIDE, y -> y.write(day, 0, 0));
        for (int day : Twin.FAR) Twin.refusedByRich("write on " + day, OUTSIDE, y -> y.write(day, 0, 0));
    }

    private static SleptMatters fullBook() {
        SleptMatters x = Twin.rich();
        for (int i = 3; i < 20; i++) x.write(i, 0, 0);
        return x;
    }

    private static void writeFull() {
        SleptMatters x = Twin.rich();
        for (int i = 4; i <= 20; i++) Due.is("write night " + i, x.write(i, 0, 0), i);
        Twin.refused("write a 21st", SleptMatters.FULL, BookBoundsTest::fullBook, y -> y.write(0, 0, 0));
        Twin.refused("UNKNOWN ahead of FULL", UNKNOWN, BookBoundsTest::fullBook, y -> y.write(0, 4, 0));
        Twin.refused("OUTSIDE ahead of FULL", OUTSIDE, BookBoundsTest::fullBook, y -> y.write(1000, 0, 0));
        Twin.refused("UNKNOWN ahead of both", UNKNOWN, BookBoundsTest::fullBook, y -> y.write(1000, 0, 3));
    }

    private static void tearBounds() {
        SleptMatters x = fullBook();
        Due.is("tear a full one", x.tear(), 20);
        Due.is("tear an empty one", x.tear(), 0);
        Due.is("judge an empty one", x.judge(0), NONE);
        Due.is("write behind tear", x.write(7, 1, 1), 1);
        Due.is("what was torn is not looked at", x.judge(0), NONE);
        Due.is("tear one", x.tear(), 1);
    }

    private static void judgeUnknown() {
        int[] near = {-1, 2};
        for (int m : near) Twin.refusedByRich("judge " + m, UNKNOWN, x -> x.judge(m));
        for (int m : Twin.FAR) Twin.refusedByRich("judge " + m, UNKNOWN, x -> x.judge(m));
        Due.is("judge the last", Due.with(Due.times(3, "matter 0 0 0 0;"), "").judge(2), NONE);
        Due.is("judge behind the last", Due.with(Due.times(3, "matter 0 0 0 0;"), "").judge(3), UNKNOWN);
    }

    /** The book of nights on days from the first on, of unlike sleepers and houses, judged for a matter from A on. */
    private static int judged(int a, String noise, int... days) {
        SleptMatters x = Due.with(SEVEN + noise + "matter " + a + " 99 0 0;", "nights 2;");
        for (int i = 0; i < days.length; i++) x.write(days[i], 6 - i % 7, i % 7);
        return x.judge(0);
    }

    private static void judgeFirstByA() {
        int[] from = {1, 50, 99};
        for (int a : from) {
            Due.is("ahead of A " + a, judged(a, "", a - 1, a, a + 1), 0);
            Due.is("on A " + a, judged(a, "", a, a + 1, a + 2), NONE);
            Due.is("behind A " + a, judged(a, "", a + 1, a + 2, a + 3), NONE);
        }
        Due.is("on day 0", judged(0, "", 0), NONE);
        Due.is("behind Z", judged(99, "", 100, 101), NONE);
        Due.is("THE DAY is not looked at", judged(5, "", 5), NONE);
    }

    private static void judgeDayBehind() {
        Due.is("the day behind", judged(0, "", 5, 6), NONE);
        Due.is("the same day: a nap", judged(0, "", 5, 5), 1);
        Due.is("a day between", judged(0, "", 5, 7), 1);
        Due.is("the day ahead", judged(0, "", 5, 4), 1);
        Due.is("over 99", judged(0, "", 99, 100), NONE);
        Due.is("up to 999", judged(0, "", 997, 998, 999), NONE);
        Due.is("from 999 round to 0", judged(0, "", 999, 0), 1);
        Due.is("wrong by the wrong one ahead of it", judged(0, "", 5, 7, 8), 1);
        Due.is("the third", judged(0, "", 5, 6, 8, 9), 2);
    }

    private static void judgeAgain() {
        for (int at = 1; at < 7; at++) {
            for (int of = 0; of < at; of++) {
                SleptMatters x = Due.with(SEVEN + "matter 0 99 0 0;", "");
                SleptMatters y = Due.with(SEVEN + "matter 0 99 0 0;", "");
                for (int i = 0; i < 7; i++) {
                    x.write(i, i == at ? of : i, i);
                    y.write(i, i, i == at ? of : i);
                }
                Due.is("sleeper of " + of + " again at " + at, x.judge(0), at);
                Due.is("house of " + of + " again at " + at, y.judge(0), at);
            }
        }
    }

    private static void judgeWoken() {
        for (int light = 0; light < 9; light++) {
            String town = "house 0 1;house 0 1;sleeper 9 0 0;sleeper " + light + " 0 0;noise 0 1 1 " + (light + 1) + ";noise 0 3 3 " + Math.max(1, light) + ";";
            SleptMatters x = Due.with(town + "matter 0 99 0 0;", "");
            x.write(0, 0, 0);
            x.write(1, 1, 1);
            Due.is("woken above LIGHT " + light, x.judge(0), 1);
            x.tear();
            x.write(2, 0, 0);
            x.write(3, 1, 1);
            Due.is("as loud as LIGHT " + light, x.judge(0), light == 0 ? 1 : NONE);
        }
        Due.is("woken on 99", judged(0, "noise 0 99 99 1;", 98, 99, 100), 1);
        Due.is("not woken on 100", judged(0, "noise 0 99 99 1;", 100, 101), NONE);
        Due.is("woken first", judged(0, "noise 0 0 0 1;", 0, 1), 0);
    }

    private static void judgeAllOfTheBook() {
        int[] days = new int[20];
        for (int i = 0; i < 20; i++) days[i] = 10 + i;
        Due.is("seven may stand", judged(0, "", 10, 11, 12, 13, 14, 15, 16), NONE);
        Due.is("an eighth is one again", judged(0, "", days), 7);
        SleptMatters x = Due.with(SEVEN + "matter 0 99 0 0;", "nights 1;");
        x.write(0, 0, 0);
        x.write(1, 1, 1);
        Due.is("more than K may stand", x.judge(0), NONE);
        x.run(1);
        Due.is("what counts is not looked at", x.judge(0), NONE);
    }

    private static void seedBounds() {
        SleptMatters x = Twin.rich();
        x.seed(0);
        Due.is("seed 0", x.seed(2147483647), 0);
        Due.is("seed 2147483647", x.seed(1), 2147483647);
        Due.is("seed 1", x.seed(0), 1);
        int[] below = {-1, -2, Integer.MIN_VALUE, Integer.MIN_VALUE + 1, UNKNOWN};
        for (int v : below) Twin.refusedByRich("seed " + v, OUTSIDE, y -> y.seed(v));
    }

    private static void keepBounds() {
        int[] near = {-1, 2};
        for (int i : near) {
            Twin.refusedByRich("keep " + i, UNKNOWN, x -> x.keep(i));
            Twin.refusedByRich("goBack " + i, UNKNOWN, x -> x.goBack(i));
        }
        for (int i : Twin.FAR) {
            Twin.refusedByRich("keep " + i, UNKNOWN, x -> x.keep(i));
            Twin.refusedByRich("goBack " + i, UNKNOWN, x -> x.goBack(i));
        }
        SleptMatters x = new SleptMatters();
        Due.is("keep 0", x.keep(0), 1);
        Due.is("keep 1", x.keep(1), 1);
        Due.is("goBack 0", x.goBack(0), 1);
        Due.is("goBack 1", x.goBack(1), 1);
        Due.is("goBack 0 again", x.goBack(0), 1);
    }

    private static void goBackNotKept() {
        Twin.refusedByRich("goBack to what was not kept", SleptMatters.NOT, x -> x.goBack(1));
        SleptMatters x = Twin.richWithoutText();
        x.keep(1);
        Due.is("kept now", x.goBack(1), 1);
        x.town();
        Due.is("a town takes image 0", x.goBack(0), SleptMatters.NOT);
        Due.is("a town takes image 1", x.goBack(1), SleptMatters.NOT);
        x.keep(0);
        Due.is("kept in the new town", x.goBack(0), 1);
        Due.is("the other is still gone", x.goBack(1), SleptMatters.NOT);
    }

    private static void imagesApart() {
        SleptMatters x = Due.with(SEVEN + "matter 0 99 9 0;", "nights 2;");
        x.run(1);
        x.keep(0);
        x.run(1);
        x.keep(1);
        x.run(1);
        x.goBack(0);
        Due.is("image 0: day", x.told(6), 1);
        Due.is("image 0: nights", x.matter(0, 4), 1);
        x.goBack(1);
        Due.is("image 1: day", x.told(6), 2);
        Due.is("image 1: decided on", x.matter(0, 7), 1);
        x.keep(0);
        x.goBack(0);
        Due.is("image 0 anew: day", x.told(6), 2);
        x.begin();
        x.goBack(1);
        Due.is("begin leaves images", x.told(6), 2);
    }

    private static void imagesOfTheFirstDay() {
        SleptMatters x = Due.with(SEVEN + "matter 0 99 9 0;", "nights 2;");
        x.seed(2147483647);
        x.lay(0, 6, 6);
        x.keep(0);
        x.run(100);
        x.goBack(0);
        Due.is("day 0 again", x.told(6), 0);
        Due.is("laid again", x.sleeper(6, 3), 0);
        Due.is("its bed", x.house(6, 2), 0);
        Due.is("no wages", x.told(7), 0);
        Due.is("the greatest seed", x.seed(2147483647), 2147483647);
        Due.is("rows from day 0", x.soonest(0, NONE), 1);
        Due.is("together from day 0", x.together(11), 1);
        x.run(100);
        Due.is("rows behind all days", x.soonest(0, NONE), NONE);
        Due.is("together behind all days", x.together(11), NONE);
        x.goBack(0);
        Due.is("together from day 0 again", x.together(11), 1);
    }

    private static void imagesBehindFaults() {
        SleptMatters x = Twin.richWithoutText();
        Due.town(x, "house 0 9;");
        Due.is("a faulty town leaves image 0", x.goBack(0), 1);
        Due.laws(x, "nights 7;");
        Due.is("laws leave image 0", x.goBack(0), 1);
        Due.is("laws are no part of it", x.told(3), 7);
        Due.is("the book is no part of it", x.told(9), 3);
        Due.feed(x, "on;");
        x.goBack(0);
        Due.is("the text is no part of it", x.told(8), 3);
    }
}
