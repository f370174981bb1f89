/** Promises 1 to 10: a new object, texts and their faults, what is told of a town. */
public final class TextsTest {
    private static final String SMALL = "house 0 1;house 3 4;sleeper 3 40 5;noise 0 2 4 4;noise 0 4 99 5;matter 1 9 100 3;";

    public static void main(String[] args) {
        newObject();
        feed();
        townText();
        townAfterTown();
        townFaults();
        lawsText();
        lawFaults();
        fault();
        told();
        houseSleeperMatter();
        noise();
        Due.end();
    }

    private static void newObject() {
        SleptMatters x = new SleptMatters();
        int[] due = {0, 0, 0, 7, 4, 1, 0, 0, 0, 0, 0};
        for (int i = 0; i < due.length; i++) Due.is("new: told " + i, x.told(i), due[i]);
        Due.is("new: fault", x.fault(), SleptMatters.NONE);
        Due.is("new: house", x.house(0, 0), SleptMatters.UNKNOWN);
        Due.is("new: sleeper", x.sleeper(0, 0), SleptMatters.UNKNOWN);
        Due.is("new: matter", x.matter(0, 0), SleptMatters.UNKNOWN);
        Due.is("new: goBack", x.goBack(0), SleptMatters.NOT);
        Due.is("new: seed", x.seed(0), 0);
        Due.is("new: night", x.night(), 0);
        Due.is("new: begin", x.begin(), 1);
    }

    private static void feed() {
        SleptMatters x = new SleptMatters();
        Due.is("feed 0", x.feed(0, 1), SleptMatters.OUTSIDE);
        Due.is("feed 9", x.feed(9, 1), SleptMatters.OUTSIDE);
        Due.is("feed -1", x.feed(-1, 1), SleptMatters.OUTSIDE);
        Due.is("feed least", x.feed(Integer.MIN_VALUE, 1), SleptMatters.OUTSIDE);
        Due.is("feed: nothing came", x.told(8), 0);
        // The bytes above the lowest n are not looked at.
        Due.is("feed 3 of 8", x.feed(3, 0x7878787878000000L | 'o' << 16 | 'n' << 8 | ';'), 3);
        Due.is("feed: on", x.laws(), 1);
        Due.is("feed: on holds", x.told(5), 0);
        for (int i = 1; i <= 62; i++) Due.is("feed 8", x.feed(8, 0x2020202020202020L), 8 * i);
        Due.is("feed 5 beyond", x.feed(5, 0), SleptMatters.FULL);
        Due.is("feed 9 beyond", x.feed(9, 0), SleptMatters.OUTSIDE);
        Due.is("feed: stays", x.told(8), 496);
        Due.is("feed to the end", x.feed(4, 0x20202020L), 500);
        Due.is("feed 1 beyond", x.feed(1, 0x20), SleptMatters.FULL);
        Due.is("feed: blanks are a town", x.town(), 0);
        Due.is("feed: is empty then", x.told(8), 0);
    }

    private static void townText() {
        Due.is("empty town", Due.town(new SleptMatters(), ""), 0);
        Due.is("small town", Due.town(new SleptMatters(), SMALL), 1);
        Due.is("no blanks but needed ones", Due.town(new SleptMatters(), "house0 1;sleeper9 100 99;noise3 0 99 9;matter0 99 999 99;"), 1);
        Due.is("blanks all around", Due.town(new SleptMatters(), "  house  0   1  ; matter 0 0 0 0 ;  "), 1);
        Due.is("figures with 0 ahead", Due.town(new SleptMatters(), "house 003 001;matter 000 099 0 00;"), 1);
        Due.is("clauses in any order", Due.town(new SleptMatters(), "matter 0 0 0 0;house 0 1;matter 0 0 0 0;sleeper 0 0 0;"), 2);
        SleptMatters x = new SleptMatters();
        String all = Due.times(7, "house0 1;") + Due.times(7, "sleeper1 2 3;") + Due.times(20, "noise0 1 2 3;") + Due.times(2, "matter1 1 1 1;");
        Due.is("a full town", Due.town(x, all), 2);
        Due.is("seven houses", x.told(0), 7);
        Due.is("seven sleepers", x.told(1), 7);
        Due.is("twenty noises", x.noise(0, 1), 60);
    }

    private static void townAfterTown() {
        SleptMatters x = Due.with("house 0 1;sleeper 9 100 7;matter 0 9 9 9;", "nights 2;on;");
        x.seed(77);
        x.lay(0, 0, 0);
        x.keep(0);
        x.keep(1);
        x.night();
        x.write(0, 0, 0);
        long seed = x.seed(0);
        x.seed((int) seed);
        x.lay(0, 0, 0);
        Due.is("a faulty town", Due.town(x, "house 0 1"), -11);
        Due.is("faulty: day", x.told(6), 1);
        Due.is("faulty: wages", x.told(7), 7);
        Due.is("faulty: text", x.told(8), 0);
        Due.is("faulty: book", x.told(9), 1);
        Due.is("faulty: nights", x.matter(0, 4), 1);
        Due.is("faulty: image", x.goBack(0), 1);
        Due.is("a town again", Due.town(x, "house 0 2;sleeper 9 100 7;matter 0 9 9 9;matter 0 9 9 9;"), 2);
        Due.is("again: laws stay", x.told(3), 2);
        Due.is("again: on stays", x.told(5), 0);
        Due.is("again: day", x.told(6), 0);
        Due.is("again: wages", x.told(7), 0);
        Due.is("again: book", x.told(9), 0);
        Due.is("again: nights", x.matter(0, 4), 0);
        Due.is("again: nobody is laid", x.sleeper(0, 3), SleptMatters.NONE);
        Due.is("again: beds", x.house(0, 2), 2);
        Due.is("again: image 0 is gone", x.goBack(0), SleptMatters.NOT);
        Due.is("again: image 1 is gone", x.goBack(1), SleptMatters.NOT);
        Due.is("again: seed stays", x.seed(0), 77);
    }

    private static void townFault(String text, int number, int at) {
        SleptMatters x = new SleptMatters();
        Due.is("town '" + text + "'", Due.town(x, text), -10 - number);
        Due.is("fault of '" + text + "'", x.fault(), at);
        Due.is("matters after '" + text + "'", x.told(2), 0);
    }

    private static void townFaults() {
        townFault("house", 1, 5);
        townFault("house  ", 1, 7);
        townFault("hous 0 1;", 1, 0);
        townFault("houses 0 1;", 1, 0);
        townFault("mouse 0 1;", 1, 0);
        townFault("x house 0 1;", 1, 0);
        townFault("House 0 1;", 1, 0);
        townFault("houSe 0 1;", 1, 0);
        townFault("hou se 0 1;", 1, 0);
        townFault(";", 1, 0);
        townFault("house 0 1;;", 1, 10);
        townFault("house 0 1,", 1, 9);
        townFault("house 0 1", 1, 9);
        townFault("house 0;", 1, 7);
        townFault("house 0 1 1;", 1, 10);
        townFault("house 0 1x;", 1, 9);
        townFault("house -1 1;", 1, 6);
        townFault("house\t0 1;", 1, 5);
        townFault("house 0 house;", 1, 8);
        townFault("house 0 1 house 0 1;", 1, 10);
        townFault("nights 3;", 1, 0);
        townFault("7;", 1, 0);
        townFault("7777;", 1, 0);
        townFault("\u00e9", 1, 0);
        townFault("house 4 1;", 2, 6);
        townFault("house 0 0;", 2, 8);
        townFault("house 0 5;", 2, 8);
        townFault("house 0000 1;", 2, 6);
        townFault("house 99999999999999999999 1;", 2, 6);
        townFault("house 0 1;house 3 12;", 2, 18);
        townFault("house 0 7x", 2, 8);
        townFault("sleeper 10 0 0;", 2, 8);
        townFault("sleeper 0 101 0;", 2, 10);
        townFault("sleeper 0 0 100;", 2, 12);
        townFault("noise 4 0 0 1;", 2, 6);
        townFault("noise 0 100 0 1;", 2, 8);
        townFault("noise 0 0 100 1;", 2, 10);
        townFault("noise 0 0 0 0;", 2, 12);
        townFault("noise 0 0 0 10;", 2, 12);
        townFault("matter 100 0 0 0;", 2, 7);
        townFault("matter 0 100 0 0;", 2, 9);
        townFault("matter 0 0 1000 0;", 2, 11);
        townFault("matter 0 0 0 100;", 2, 13);
        townFault(Due.times(7, "house 0 1;") + "house", 3, 70);
        townFault(Due.times(7, "house 0 1;") + " house 9 9;", 3, 71);
        townFault(Due.times(7, "house 0 1;") + "houses 0 1;", 1, 70);
        townFault(Due.times(7, "sleeper 0 0 0;") + "sleeper 0 0 0;", 3, 98);
        townFault(Due.times(20, "noise 0 0 0 1;") + "noise 0 0 0 1;", 3, 280);
        townFault(Due.times(3, "matter 0 0 0 0;") + "matter 0 0 0 0;", 3, 45);
        townFault("noise 0 5 4 1;", 4, 10);
        townFault("noise 0 99 1000 1;", 2, 11);
        townFault("noise 0 5 4x", 4, 10);
        townFault("matter 5 4 1 1;", 4, 9);
        townFault("matter 99 100 1 1;", 2, 10);
        townFault("noise 0 5 4 1;house 9 9;", 4, 10);
    }

    private static void lawsText() {
        SleptMatters x = new SleptMatters();
        Due.is("no laws", Due.laws(x, ""), 0);
        Due.is("nights", Due.laws(x, "nights 4;"), 1);
        Due.is("nights: K", x.told(3), 4);
        Due.is("nights: half and 1", x.told(4), 3);
        Due.is("nights 5", Due.laws(x, "nights 5;"), 1);
        Due.is("nights 5: half and 1", x.told(4), 3);
        Due.is("all", Due.laws(x, "on;yes7;nights 1;"), 3);
        Due.is("all: K", x.told(3), 1);
        Due.is("all: yes", x.told(4), 7);
        Due.is("all: on", x.told(5), 0);
        Due.is("untold ones are as untold", Due.laws(x, "yes 0;"), 1);
        Due.is("untold: K", x.told(3), 7);
        Due.is("untold: yes", x.told(4), 0);
        Due.is("untold: again", x.told(5), 1);
        Due.is("again", Due.laws(x, " again ; "), 1);
        Due.is("again: yes is half and 1", x.told(4), 4);
        Due.laws(x, "on;");
        Due.laws(x, "on;yes 5;nights 2;");
        Due.laws(x, "");
        Due.is("untold behind 'on' twice", x.told(5), 1);
        Due.is("untold behind 'yes'", x.told(4), 4);
        Due.feed(x, "on;" + Due.times(198, " "));
        Due.is("201 bytes", x.laws(), SleptMatters.NOT);
        Due.is("201 bytes: text stays", x.told(8), 201);
        Due.is("201 bytes: laws stay", x.told(5), 1);
        x.town();
        Due.is("200 bytes", Due.laws(x, "on;" + Due.times(197, " ")), 1);
        Due.is("200 bytes: on", x.told(5), 0);
    }

    private static void lawFault(String text, int number, int at) {
        SleptMatters x = new SleptMatters();
        Due.laws(x, "nights 5;yes 2;on;");
        Due.is("laws '" + text + "'", Due.laws(x, text), -10 - number);
        Due.is("fault of '" + text + "'", x.fault(), at);
        Due.is("K after '" + text + "'", x.told(3), 5);
        Due.is("yes after '" + text + "'", x.told(4), 2);
        Due.is("on after '" + text + "'", x.told(5), 0);
        Due.is("text after '" + text + "'", x.told(8), 0);
    }

    private static void lawFaults() {
        lawFault("nights 0;", 2, 7);
        lawFault("nights 8;", 2, 7);
        lawFault("yes 8;", 2, 4);
        lawFault("yes 0000;", 2, 4);
        lawFault("nights 3", 1, 8);
        lawFault("nights;", 1, 6);
        lawFault("again 1;", 1, 6);
        lawFault("againon;", 1, 0);
        lawFault("house 0 1;", 1, 0);
        lawFault("on;again;", 3, 3);
        lawFault("again;on;", 3, 6);
        lawFault("on; on;", 3, 4);
        lawFault("nights 3;nights 9;", 3, 9);
        lawFault("yes 1;nights 3;yes", 3, 15);
        lawFault("off;", 1, 0);
    }

    private static void fault() {
        SleptMatters x = new SleptMatters();
        Due.town(x, "house 9 9;");
        Due.is("fault of a town", x.fault(), 6);
        Due.feed(x, Due.times(201, " "));
        x.laws();
        Due.is("fault after NOT", x.fault(), 6);
        x.town();
        Due.is("fault after a good town", x.fault(), SleptMatters.NONE);
        Due.laws(x, "yes 9;");
        Due.is("fault of laws", x.fault(), 4);
        Due.laws(x, "yes 1;");
        Due.is("fault after good laws", x.fault(), SleptMatters.NONE);
    }

    private static void told() {
        SleptMatters x = Due.with("house 0 1;house 0 1;sleeper 9 100 5;sleeper 9 0 6;sleeper 0 0 0;matter 1 2 100 3;matter 0 1 50 0;", "nights 1;yes 1;on;");
        Due.is("told: outside", x.told(-1), SleptMatters.OUTSIDE);
        Due.is("told: outside above", x.told(11), SleptMatters.OUTSIDE);
        Due.is("score at first", x.told(10), 0);
        x.lay(1, 0, 0);
        x.night();
        Due.is("score: decided yes by its Z", x.told(10), 50 - 5);
        x.night();
        Due.is("score: one DAY behind A", x.told(10), 50 - 5 - 3);
        x.night();
        x.lay(0, 0, 0);
        x.night();
        Due.is("score: yes, but too late", x.told(10), 50 - 10 - 2 * 3);
        x.night();
        x.write(0, 0, 0);
        Due.feed(x, "abc");
        int[] due = {2, 3, 2, 1, 1, 0, 5, 10, 3, 1, 34};
        for (int i = 0; i < due.length; i++) Due.is("told " + i, x.told(i), due[i]);
        x.begin();
        x.night();
        x.lay(0, 1, 0);
        x.night();
        Due.is("score: no, at A", x.told(10), -6);
        x = Due.with("house 0 1;sleeper 9 100 5;matter 1 2 100 3;", "nights 1;");
        x.night();
        x.night();
        x.run(1);
        Due.is("score: yes, at Z", x.told(10), 100 - 3 - 5);
    }

    private static void houseSleeperMatter() {
        SleptMatters x = Due.with(SMALL, "nights 2;");
        int[] house = {3, 4, 4};
        for (int i = 0; i < 3; i++) Due.is("house 1 " + i, x.house(1, i), house[i]);
        int[] sleeper = {3, 40, 5, SleptMatters.NONE};
        for (int i = 0; i < 4; i++) Due.is("sleeper 0 " + i, x.sleeper(0, i), sleeper[i]);
        int[] matter = {1, 9, 100, 3, 0, 0, 0, SleptMatters.NONE, 0, 0};
        for (int i = 0; i < 10; i++) Due.is("matter 0 " + i, x.matter(0, i), matter[i]);
        int[] far = {-1, 11, Integer.MIN_VALUE, Integer.MAX_VALUE};
        for (int f : far) {
            Due.is("house what " + f, x.house(0, f), SleptMatters.OUTSIDE);
            Due.is("sleeper what " + f, x.sleeper(0, f), SleptMatters.OUTSIDE);
            Due.is("matter what " + f, x.matter(0, f), SleptMatters.OUTSIDE);
            Due.is("house " + f, x.house(f, f), SleptMatters.UNKNOWN);
            Due.is("sleeper " + f, x.sleeper(f, f), SleptMatters.UNKNOWN);
            Due.is("matter " + f, x.matter(f, f), SleptMatters.UNKNOWN);
        }
        Due.is("house what 3", x.house(0, 3), SleptMatters.OUTSIDE);
        Due.is("sleeper what 4", x.sleeper(0, 4), SleptMatters.OUTSIDE);
        Due.is("matter what 10", x.matter(0, 10), SleptMatters.OUTSIDE);
        Due.is("house 2", x.house(2, 0), SleptMatters.UNKNOWN);
        Due.is("sleeper 1", x.sleeper(1, 0), SleptMatters.UNKNOWN);
        Due.is("matter 1", x.matter(1, 0), SleptMatters.UNKNOWN);
    }

    private static void noise() {
        SleptMatters x = Due.with(SMALL, "");
        int[][] due = {{0, 0, 0}, {0, 1, 0}, {0, 2, 4}, {0, 3, 4}, {0, 4, 9}, {0, 5, 5}, {0, 99, 5}, {0, 100, 0}, {0, 999, 0}, {1, 3, 0}, {3, 4, 0}};
        for (int[] d : due) Due.is("noise " + d[0] + " " + d[1], x.noise(d[0], d[1]), d[2]);
        int[][] outside = {{-1, 0}, {4, 0}, {0, -1}, {0, 1000}, {Integer.MAX_VALUE, Integer.MAX_VALUE}};
        for (int[] d : outside) Due.is("noise " + d[0] + " " + d[1], x.noise(d[0], d[1]), SleptMatters.OUTSIDE);
        for (int i = 1; i < 4; i++) {
            Due.town(x, "noise 3 0 0 " + i + ";");
            Due.is("noise of another town", x.noise(3, 0), i);
            Due.is("noise of the town ahead is gone", x.noise(0, 4), 0);
        }
    }
}
