/** Promises 23 to 28: the book, the seed, images. */
public final class BooksTest {
    private static final String TOWN = "house 0 1;house 1 1;house 2 1;sleeper 3 100 5;sleeper 9 0 20;sleeper 3 50 1;noise 1 6 6 4;noise 1 7 7 3;matter 5 9 100 3;matter 0 9 1 1;";

    public static void main(String[] args) {
        write();
        judge();
        judgeFarDays();
        seed();
        images();
        Due.end();
    }

    private static void write() {
        SleptMatters x = Due.with(TOWN, "nights 2;");
        int[][] unknown = {{0, 3, 0}, {0, -1, 0}, {0, 0, 3}, {0, 0, -1}, {-1, 9, 0}};
        for (int[] u : unknown) Due.is("write unknown", x.write(u[0], u[1], u[2]), SleptMatters.UNKNOWN);
        Due.is("write on -1", x.write(-1, 0, 0), SleptMatters.OUTSIDE);
        Due.is("write on 1000", x.write(1000, 0, 0), SleptMatters.OUTSIDE);
        Due.is("write: nothing came", x.told(9), 0);
        for (int i = 1; i <= 20; i++) Due.is("write", x.write(999, 0, 0), i);
        Due.is("write beyond", x.write(0, 0, 0), SleptMatters.FULL);
        Due.is("write beyond, outside", x.write(1000, 0, 0), SleptMatters.OUTSIDE);
        Due.is("write beyond, unknown", x.write(1000, 0, 7), SleptMatters.UNKNOWN);
        Due.is("tear", x.tear(), 20);
        Due.is("tear again", x.tear(), 0);
        Due.is("write then", x.write(0, 0, 0), 1);
    }

    private static int judged(int m, int... nights) {
        SleptMatters x = Due.with(TOWN, "nights 2;");
        for (int i = 0; i + 2 < nights.length; i += 3) x.write(nights[i], nights[i + 1], nights[i + 2]);
        return x.judge(m);
    }

    private static void judge() {
        Due.is("judge nothing", judged(0), SleptMatters.NONE);
        Due.is("judge unknown", judged(2), SleptMatters.UNKNOWN);
        Due.is("judge unknown below", judged(-1), SleptMatters.UNKNOWN);
        Due.is("ahead of A", judged(0, 4, 0, 0), 0);
        Due.is("at A", judged(0, 5, 0, 0), SleptMatters.NONE);
        Due.is("of another matter", judged(1, 4, 0, 0), SleptMatters.NONE);
        Due.is("more than K may stand", judged(0, 5, 0, 0, 6, 1, 1, 7, 2, 2), SleptMatters.NONE);
        Due.is("woken", judged(0, 5, 1, 0, 6, 0, 1), 1);
        Due.is("noise as LIGHT", judged(0, 6, 1, 0, 7, 0, 1), SleptMatters.NONE);
        Due.is("a day left out", judged(0, 5, 0, 0, 7, 1, 1), 1);
        Due.is("a day twice: a nap", judged(0, 5, 0, 0, 5, 1, 1), 1);
        Due.is("a day back", judged(0, 6, 0, 0, 5, 1, 1), 1);
        Due.is("sleeper again", judged(0, 5, 0, 0, 6, 1, 1, 7, 0, 2), 2);
        Due.is("house again", judged(0, 5, 0, 0, 6, 1, 1, 7, 2, 0), 2);
        Due.is("the first of several", judged(0, 5, 0, 0, 6, 0, 0, 9, 0, 0), 1);
    }

    private static void judgeFarDays() {
        Due.is("behind day 99", judged(0, 998, 0, 0, 999, 2, 1), SleptMatters.NONE);
        Due.is("over day 99", judged(0, 99, 0, 0, 100, 2, 1), SleptMatters.NONE);
    }

    private static void seed() {
        SleptMatters x = new SleptMatters();
        Due.is("seed at first", x.seed(5), 0);
        Due.is("seed below", x.seed(-1), SleptMatters.OUTSIDE);
        Due.is("seed least", x.seed(Integer.MIN_VALUE), SleptMatters.OUTSIDE);
        Due.is("seed stays", x.seed(Integer.MAX_VALUE), 5);
        Due.is("seed greatest", x.seed(0), Integer.MAX_VALUE);
    }

    private static void images() {
        SleptMatters x = Due.with(TOWN, "nights 2;yes 1;on;");
        int[] unknown = {-1, 2, Integer.MIN_VALUE, Integer.MAX_VALUE};
        for (int u : unknown) {
            Due.is("keep " + u, x.keep(u), SleptMatters.UNKNOWN);
            Due.is("goBack " + u, x.goBack(u), SleptMatters.UNKNOWN);
        }
        Due.is("goBack: not kept", x.goBack(1), SleptMatters.NOT);
        x.lay(1, 0, 0);
        x.night();
        x.lay(1, 1, 2);
        Due.is("keep", x.keep(1), 1);
        int seed = x.seed(0);
        x.seed(seed);
        Due.is("goBack: the other was not kept", x.goBack(0), SleptMatters.NOT);
        x.night();
        x.keep(0);
        x.run(9);
        Due.laws(x, "nights 3;");
        x.write(0, 0, 0);
        Due.is("goBack", x.goBack(1), 1);
        Due.is("goBack: day", x.told(6), 1);
        Due.is("goBack: wages", x.told(7), 5);
        Due.is("goBack: nights", x.matter(1, 4), 1);
        Due.is("goBack: dreams", x.matter(1, 5), 1);
        Due.is("goBack: sleepers", x.matter(1, 8), 1);
        Due.is("goBack: houses", x.matter(1, 9), 1);
        Due.is("goBack: open", x.matter(1, 6), 0);
        Due.is("goBack: no day", x.matter(1, 7), SleptMatters.NONE);
        Due.is("goBack: who is laid", x.sleeper(1, 3), 1);
        Due.is("goBack: where", x.house(2, 2), 0);
        Due.is("goBack: seed", x.seed(seed), seed);
        Due.is("goBack: laws stay as they are", x.told(3), 3);
        Due.is("goBack: book stays as it is", x.told(9), 1);
        x.night();
        Due.is("goBack once more", x.goBack(1), 1);
        Due.is("goBack: the image did not go on", x.told(6), 1);
        Due.is("goBack to the other", x.goBack(0), 1);
        Due.is("goBack: decided", x.matter(1, 6) * 10 + x.matter(1, 7), 11);
        Due.is("goBack: its dreams", x.matter(1, 5), 1);
        x.begin();
        Due.is("begin: no dreams", x.matter(1, 5), 0);
        x.goBack(1);
        Due.is("goBack: dreams come back", x.matter(1, 5), 1);
        x.begin();
        x.keep(0);
        x.run(1);
        x.goBack(0);
        Due.is("keep anew", x.told(6), 0);
    }
}
