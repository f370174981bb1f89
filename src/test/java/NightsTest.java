/** Promises 11 to 15: who is laid, nights, runs, a new beginning. */
public final class NightsTest {
    private static final String HOUSES = "house 0 1;house 0 1;house 1 2;";
    private static final String SLEEPERS = "sleeper 3 100 5;sleeper 9 0 20;sleeper 3 100 1;sleeper 3 100 1;";

    public static void main(String[] args) {
        lay();
        rise();
        nightsCount();
        nightsAreLost();
        nightByLawAsItIsNow();
        draws();
        drawOfNought();
        run();
        runBesideLaid();
        begin();
        Due.end();
    }

    private static SleptMatters town(String more, String laws) {
        return Due.with(HOUSES + SLEEPERS + more, laws);
    }

    private static void lay() {
        SleptMatters x = town("matter 0 9 100 3;matter 0 9 100 3;matter 1 9 100 3;", "nights 2;on;");
        int[][] unknown = {{3, 0, 0}, {-1, 0, 0}, {0, 4, 0}, {0, -1, 0}, {0, 0, 3}, {0, 0, -1}, {9, 9, 9}};
        for (int[] u : unknown) Due.is("lay unknown", x.lay(u[0], u[1], u[2]), SleptMatters.UNKNOWN);
        Due.is("lay ahead of A", x.lay(2, 0, 0), SleptMatters.NOT);
        Due.is("lay ahead of A, unknown", x.lay(2, 7, 0), SleptMatters.UNKNOWN);
        Due.is("lay", x.lay(0, 0, 0), 1);
        Due.is("lay: one for a matter", x.lay(0, 1, 1), SleptMatters.NOT);
        Due.is("lay: a sleeper once", x.lay(1, 0, 1), SleptMatters.NOT);
        Due.is("lay: no bed", x.lay(1, 1, 0), SleptMatters.NOT);
        Due.is("lay: beds", x.house(0, 2), 0);
        Due.is("lay: sleeper", x.sleeper(0, 3), 0);
        Due.is("lay: what was refused", x.sleeper(1, 3), SleptMatters.NONE);
        Due.is("lay two", x.lay(1, 1, 2), 2);
        Due.is("lay: beds left", x.house(2, 2), 1);
        x.night();
        Due.is("lay: beds are empty", x.house(2, 2), 2);
        Due.is("lay: it got up", x.sleeper(1, 3), SleptMatters.NONE);
        Due.is("lay: sleeper counts already", x.lay(0, 0, 1), SleptMatters.NOT);
        Due.is("lay: house counts already", x.lay(0, 1, 0), SleptMatters.NOT);
        Due.is("lay: for another matter it may", x.lay(2, 0, 2), 1);
        Due.is("lay: two beds of a house", x.lay(0, 2, 2), 2);
        Due.is("lay: its third bed", x.lay(1, 3, 2), SleptMatters.NOT);
        Due.is("lay: decides", x.night(), 1);
        Due.is("lay: for a decided one", x.lay(0, 3, 1), SleptMatters.NOT);
    }

    private static void rise() {
        SleptMatters x = town("matter 0 9 100 3;matter 0 9 100 3;", "nights 2;");
        Due.is("rise: nobody", x.rise(0), SleptMatters.NOT);
        Due.is("rise: unknown", x.rise(2), SleptMatters.UNKNOWN);
        Due.is("rise: unknown below", x.rise(-1), SleptMatters.UNKNOWN);
        x.lay(0, 3, 0);
        x.lay(1, 2, 1);
        Due.is("rise", x.rise(0), 3);
        Due.is("rise: bed", x.house(0, 2), 1);
        Due.is("rise: the other stays", x.sleeper(2, 3), 1);
        Due.is("rise again", x.rise(0), SleptMatters.NOT);
        Due.is("rise, then lay", x.lay(0, 3, 0), 2);
        x.rise(0);
        x.night();
        Due.is("rise: no wage", x.told(7), 1);
        Due.is("rise: after a night nobody is laid", x.rise(1), SleptMatters.NOT);
    }

    private static void nightsCount() {
        SleptMatters x = town("matter 0 9 100 3;matter 0 0 100 3;", "nights 2;yes 1;");
        x.lay(0, 0, 1);
        x.lay(1, 1, 2);
        Due.is("night", x.night(), 0);
        Due.is("night: counts", x.matter(0, 4), 1);
        Due.is("night: dreams", x.matter(0, 5), 1);
        Due.is("night: sleepers", x.matter(0, 8), 1);
        Due.is("night: houses", x.matter(0, 9), 2);
        Due.is("night: no dream of 0", x.matter(1, 5), 0);
        Due.is("night: wages", x.told(7), 25);
        x.lay(0, 1, 2);
        x.lay(1, 3, 1);
        Due.is("night: decides both", x.night(), 3);
        Due.is("night: yes", x.matter(0, 6), 1);
        Due.is("night: on its day", x.matter(0, 7), 1);
        Due.is("night: sleepers of all", x.matter(0, 8), 3);
        Due.is("night: houses of all", x.matter(1, 9), 6);
        Due.is("night: too late, but yes", x.matter(1, 6), 1);
        Due.is("night: day", x.told(6), 2);
        x = town("matter 0 9 100 3;", "nights 2;yes 2;");
        x.lay(0, 0, 0);
        x.night();
        x.lay(0, 1, 1);
        x.night();
        Due.is("night: no", x.matter(0, 6), 2);
        Due.is("night: no, on its day", x.matter(0, 7), 1);
        // By 'again' the nights of one for which nobody was laid are gone; the document does not spare decided ones.
        x.night();
        Due.is("night: gone behind the decision", x.matter(0, 4), 0);
        Due.is("night: the decision stays", x.matter(0, 6), 2);
        Due.is("night: its day stays", x.matter(0, 7), 1);
        x = town("matter 0 9 100 3;", "nights 1;yes 0;on;");
        x.lay(0, 1, 0);
        x.night();
        x.night();
        Due.is("night: by 'on' they stay", x.matter(0, 4), 1);
        Due.is("night: none must dream yes", x.matter(0, 6), 1);
    }

    private static void nightsAreLost() {
        String noise = "noise 1 1 1 4;noise 1 2 2 3;";
        for (int again = 0; again < 2; again++) {
            String law = again == 1 ? "nights 3;again;" : "nights 3;on;";
            SleptMatters x = town(noise + "matter 0 9 100 3;", law);
            x.lay(0, 0, 0);
            x.night();
            x.lay(0, 2, 2);
            int seed = x.seed(5);
            x.seed(seed);
            Due.is("woken", x.night(), 0);
            Due.is("woken: counts, " + law, x.matter(0, 4), 1 - again);
            Due.is("woken: dreams, " + law, x.matter(0, 5), 1 - again);
            Due.is("woken: sleepers, " + law, x.matter(0, 8), 1 - again);
            Due.is("woken: houses, " + law, x.matter(0, 9), 1 - again);
            Due.is("woken: is paid", x.told(7), 6);
            Due.is("woken: draws nothing", x.seed(seed), seed);
            x.lay(0, 2, 2);
            x.night();
            Due.is("noise as LIGHT does not wake, " + law, x.matter(0, 4), 2 - again);
            x.night();
            Due.is("nobody: counts, " + law, x.matter(0, 4), again == 1 ? 0 : 2);
            Due.is("nobody: houses, " + law, x.matter(0, 9), again == 1 ? 0 : 5);
        }
    }

    private static void nightByLawAsItIsNow() {
        SleptMatters x = town("noise 1 2 2 4;matter 0 9 100 3;", "nights 4;on;");
        x.lay(0, 0, 0);
        x.night();
        x.lay(0, 2, 1);
        x.night();
        Due.laws(x, "nights 1;yes 2;on;");
        Due.is("law: no night, no decision", x.matter(0, 6), 0);
        x.lay(0, 3, 2);
        Due.is("law: woken, no decision", x.night(), 0);
        x.lay(0, 3, 2);
        Due.is("law: more nights than K", x.night(), 1);
        Due.is("law: yes", x.matter(0, 6), 1);
        Due.is("law: nights", x.matter(0, 4), 3);
    }

    private static void draws() {
        SleptMatters x = Due.with("house 0 1;house 0 1;house 0 1;sleeper 0 40 0;sleeper 0 41 0;matter 0 9 1 1;matter 0 9 1 1;", "nights 1;yes 1;");
        // From 0: 12345 / 65536 is 0; then 1406932606 / 65536 is 21468, of a hundred 68.
        x.lay(0, 1, 0);
        x.lay(1, 0, 1);
        Due.is("draws: decided", x.night(), 3);
        Due.is("draws: first is 0", x.matter(0, 6), 1);
        Due.is("draws: second is 68", x.matter(1, 6), 2);
        Due.is("draws: seed", x.seed(1406932606), 1406932606);
        x.begin();
        x.lay(0, 1, 0);
        x.night();
        // 654583775 / 65536 is 9988: 88 of a hundred.
        Due.is("draws: third is 88", x.matter(0, 6), 2);
        Due.is("draws: third seed", x.seed(Integer.MAX_VALUE), 654583775);
        x.begin();
        x.lay(0, 1, 0);
        x.night();
        long seed = (2147483647L * 1103515245L + 12345L) % 2147483648L;
        Due.is("draws: from the greatest", x.seed(0), seed);
    }

    private static void drawOfNought() {
        SleptMatters x = Due.with("house 0 1;sleeper 0 0 0;matter 0 9 1 1;", "nights 1;yes 1;");
        x.run(1);
        Due.is("draws: 0 is not below 0", x.matter(0, 6), 2);
        x = Due.with("house 0 1;sleeper 0 1 0;matter 0 9 1 1;", "nights 1;yes 1;");
        x.run(1);
        Due.is("draws: 0 is below 1", x.matter(0, 6), 1);
        // From 1 the first draw is 16838: 38 of a hundred.
        for (int y = 38; y < 40; y++) {
            x = Due.with("house 0 1;sleeper 0 " + y + " 0;matter 0 9 1 1;", "nights 1;yes 1;");
            x.seed(1);
            x.run(1);
            Due.is("draws: 38 below " + y, x.matter(0, 6), y == 38 ? 2 : 1);
        }
    }

    private static void run() {
        SleptMatters x = town("noise 0 0 0 4;matter 0 9 100 3;matter 1 9 100 3;", "nights 2;");
        Due.is("run 0", x.run(0), SleptMatters.OUTSIDE);
        Due.is("run 101", x.run(101), SleptMatters.OUTSIDE);
        Due.is("run: day stays", x.told(6), 0);
        Due.is("run 1", x.run(1), 0);
        Due.is("run: least sleeper, calm house", x.matter(0, 8) * 10 + x.matter(0, 9), 14);
        Due.is("run: not ahead of A", x.matter(1, 4), 0);
        Due.is("run 2", x.run(1), 1);
        Due.is("run: next sleeper, next house", x.matter(0, 8) * 10 + x.matter(0, 9), 35);
        Due.is("run: the other has whom the first leaves", x.matter(1, 8) * 10 + x.matter(1, 9), 12);
        Due.is("run: wages", x.told(7), 5 + 20 + 5);
        Due.is("run to the end", x.run(100), 2);
        Due.is("run: days", x.told(6), 102);
        x = Due.with("house 0 1;sleeper 0 0 9;noise 0 0 99 1;matter 0 9 1 1;", "nights 1;");
        Due.is("run: woken ones are not laid", x.run(100), 0);
        Due.is("run: no wages", x.told(7), 0);
        Due.is("run: behind day 99 it is calm", x.run(1), 1);
        Due.is("run: decided on 100", x.matter(0, 7), 100);
    }

    private static void runBesideLaid() {
        SleptMatters x = town("matter 0 9 100 3;matter 0 9 100 3;", "nights 1;");
        x.lay(1, 0, 0);
        Due.is("run beside laid", x.run(1), 2);
        Due.is("run: who was laid stays", x.matter(1, 8) * 10 + x.matter(1, 9), 11);
        Due.is("run: the first takes others", x.matter(0, 8) * 10 + x.matter(0, 9), 22);
    }

    private static void begin() {
        SleptMatters x = town("matter 0 9 100 3;", "nights 1;on;");
        x.lay(0, 0, 0);
        x.keep(1);
        x.night();
        x.write(0, 0, 0);
        x.seed(9);
        Due.feed(x, "on;");
        Due.is("begin", x.begin(), 1);
        Due.is("begin: day", x.told(6), 0);
        Due.is("begin: wages", x.told(7), 0);
        Due.is("begin: open", x.matter(0, 6), 0);
        Due.is("begin: no day", x.matter(0, 7), SleptMatters.NONE);
        Due.is("begin: no nights", x.matter(0, 4), 0);
        Due.is("begin: no dreams", x.matter(0, 5), 0);
        Due.is("begin: nobody is laid", x.sleeper(0, 3), SleptMatters.NONE);
        Due.is("begin: laws stay", x.told(5), 0);
        Due.is("begin: book stays", x.told(9), 1);
        Due.is("begin: town stays", x.told(1), 4);
        Due.is("begin: text stays", x.told(8), 3);
        Due.is("begin: seed stays", x.seed(9), 9);
        Due.is("begin: image stays", x.goBack(1), 1);
        Due.is("begin: who is laid comes back", x.sleeper(0, 3), 0);
        x.begin();
        Due.is("begin: gets up", x.sleeper(0, 3), SleptMatters.NONE);
        Due.is("begin at 0", x.begin(), 0);
    }
}
