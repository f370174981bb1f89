import java.util.Random;

/** Random towns, laws and calls: the class answers as Reference does, call by call. */
public final class RandomRunsTest {
    private static final int CALLS = 27;
    private final Random random;
    private final SleptMatters x = new SleptMatters();
    private final Reference y = new Reference();
    private final StringBuilder story = new StringBuilder();
    private boolean isWrong = false;

    private RandomRunsTest(long number) {
        random = new Random(number);
    }

    public static void main(String[] args) {
        int runs = args.length > 0 ? Integer.parseInt(args[0]) : 500;
        long from = args.length > 1 ? Long.parseLong(args[1]) : 0;
        int wrong = 0;
        for (long number = from; number < from + runs && wrong < 3; number++) {
            RandomRunsTest run = new RandomRunsTest(number);
            run.go();
            if (run.isWrong) {
                wrong++;
                System.out.println("run " + number + run.story);
            }
        }
        if (wrong > 0) System.exit(1);
    }

    private void go() {
        int calls = 20 + random.nextInt(150);
        if (random.nextInt(8) != 0) {
            tell(goodTown(), true);
            if (random.nextInt(4) != 0) tell(goodLaws(), false);
        }
        for (int i = 0; i < calls && !isWrong; i++) {
            int kind = random.nextInt(60);
            if (kind == 0) tell(random.nextInt(3) == 0 ? broken(goodTown()) : goodTown(), true);
            else if (kind == 1) tell(random.nextInt(3) == 0 ? broken(goodLaws()) : goodLaws(), false);
            else if (kind == 2) tell(broken(random.nextBoolean() ? goodTown() : goodLaws()), random.nextBoolean());
            else call(random.nextInt(CALLS));
        }
        if (random.nextInt(3) == 0) lookAtAll();
    }

    /** All that can be asked, so that nothing hides in a call that was not drawn. */
    private void lookAtAll() {
        for (int m = 0; m < y.matters.size() && !isWrong; m++) {
            for (int i = -1; i < 2 * y.k + 1; i++) due("soonest", x.soonest(m, i), y.soonest(m, i), m, i);
            for (int i = -1; i < 4; i++) {
                due("cheapest", x.cheapest(m, i), y.cheapest(m, i), m, i);
                due("likeliest", x.likeliest(m, i), y.likeliest(m, i), m, i);
            }
            int stops = y.stopped(m, -1);
            for (int i = -1; i <= stops; i++) due("stopped", x.stopped(m, i), y.stopped(m, i), m, i);
            for (int i = 0; i < 9; i++) due("tried", x.tried(m, i), y.tried(m, i), m, i);
            for (int i = -1; i < 11; i++) due("matter", x.matter(m, i), y.matter(m, i), m, i);
        }
        for (int i = -1; i < 15; i++) due("together", x.together(i), y.together(i), i);
        for (int i = -1; i < 12; i++) due("told", x.told(i), y.told(i), i);
    }

    private void due(String call, int got, int want, long... arguments) {
        if (isWrong) return;
        story.append("\n  ").append(call);
        for (long a : arguments) story.append(' ').append(a);
        story.append(" -> ").append(got);
        if (got == want) return;
        isWrong = true;
        story.append(", due is ").append(want);
    }

    private void tell(String text, boolean isTown) {
        byte[] bytes = text.getBytes(java.nio.charset.StandardCharsets.ISO_8859_1);
        story.append("\n  '").append(text).append("'");
        int at = 0;
        while (at < bytes.length) {
            int n = Math.min(1 + random.nextInt(8), bytes.length - at);
            long packed = Due.packed(bytes, at, n);
            if (n < 8) packed |= random.nextLong() << (8 * n);
            due("feed", x.feed(n, packed), y.feed(n, packed), n, packed);
            at += n;
        }
        if (isTown) due("town", x.town(), y.town());
        else due("laws", x.laws(), y.laws());
        due("fault", x.fault(), y.fault());
    }

    private String goodTown() {
        StringBuilder text = new StringBuilder();
        int houses = most(7), sleepers = most(7), noises = random.nextInt(3) == 0 ? random.nextInt(21) : random.nextInt(5);
        int days = random.nextInt(3) == 0 ? 100 : 12;
        boolean isCrowded = random.nextBoolean();
        for (int i = 0; i < houses; i++) clause(text, "house", random.nextInt(4), isCrowded ? 1 : 1 + random.nextInt(4));
        for (int i = 0; i < sleepers; i++) {
            clause(text, "sleeper", random.nextInt(10), random.nextInt(101), random.nextInt(random.nextBoolean() ? 3 : 100));
        }
        for (int i = 0; i < noises; i++) {
            int from = random.nextInt(days);
            int to = Math.min(99, from + random.nextInt(random.nextBoolean() ? 3 : 40));
            clause(text, "noise", random.nextInt(4), from, to, 1 + random.nextInt(9));
        }
        for (int i = random.nextInt(8) == 0 ? 1 : 0; i < 3; i++) {
            int from = random.nextInt(days);
            int to = Math.min(99, from + random.nextInt(30));
            clause(text, "matter", from, to, random.nextInt(1000), random.nextInt(random.nextBoolean() ? 10 : 100));
        }
        return text.length() > 500 ? goodTown() : text.toString();
    }

    /** Mostly as many as there may be. */
    private int most(int bound) {
        return random.nextInt(3) == 0 ? random.nextInt(bound + 1) : bound - random.nextInt(2);
    }

    private String goodLaws() {
        StringBuilder text = new StringBuilder();
        if (random.nextInt(5) != 0) clause(text, "nights", 1 + random.nextInt(7));
        if (random.nextBoolean()) clause(text, "yes", random.nextInt(8));
        if (random.nextBoolean()) clause(text, random.nextInt(3) == 0 ? "again" : "on");
        return text.toString();
    }

    private void clause(StringBuilder text, String word, int... numbers) {
        if (random.nextInt(40) == 0) text.append(' ');
        text.append(word);
        for (int i = 0; i < numbers.length; i++) {
            if (i > 0 || random.nextInt(4) != 0) text.append(' ');
            if (random.nextInt(60) == 0) text.append('0');
            text.append(numbers[i]);
        }
        if (random.nextInt(40) == 0) text.append(' ');
        text.append(';');
    }

    /** A text with some bytes changed, lost, or come twice. */
    private String broken(String text) {
        StringBuilder changed = new StringBuilder(text);
        int changes = 1 + random.nextInt(3);
        String bytes = "0123456789 ;;aeghimnorstuwy\t.:/`{A\u00e9";
        for (int i = 0; i < changes && changed.length() > 0; i++) {
            int at = random.nextInt(changed.length());
            switch (random.nextInt(5)) {
                case 0 -> changed.setCharAt(at, bytes.charAt(random.nextInt(bytes.length())));
                case 1 -> changed.insert(at, bytes.charAt(random.nextInt(bytes.length())));
                case 2 -> changed.deleteCharAt(at);
                case 3 -> changed.setLength(at);
                default -> changed.append(changed.substring(at));
            }
        }
        return changed.length() > 500 ? text : changed.toString();
    }

    /** Mostly a number from 0 to one less than a bound, now and then one far off. */
    private int near(int bound) {
        int kind = random.nextInt(25);
        if (kind == 0) return -1 - random.nextInt(3);
        if (kind == 1) return bound + random.nextInt(3);
        if (kind == 2) return random.nextInt();
        return random.nextInt(Math.max(1, bound));
    }

    private void call(int which) {
        int m = near(y.matters.size()), s = near(y.sleepers.size()), h = near(y.houses.size());
        int a = near(100), b = near(11);
        long packed = random.nextLong();
        switch (which) {
            case 0 -> { if (random.nextInt(9) == 0) due("feed", x.feed(b, packed), y.feed(b, packed), b, packed); }
            case 1 -> due("fault", x.fault(), y.fault());
            case 2 -> due("told", x.told(b), y.told(b), b);
            case 3 -> due("house", x.house(h, b % 4), y.house(h, b % 4), h, b % 4);
            case 4 -> due("sleeper", x.sleeper(s, b % 5), y.sleeper(s, b % 5), s, b % 5);
            case 5, 6 -> due("matter", x.matter(m, b), y.matter(m, b), m, b);
            case 7 -> due("noise", x.noise(b % 5, a), y.noise(b % 5, a), b % 5, a);
            case 8, 9, 10, 11 -> due("lay", x.lay(m, s, h), y.lay(m, s, h), m, s, h);
            case 12 -> due("rise", x.rise(m), y.rise(m), m);
            case 13, 14 -> due("night", x.night(), y.night());
            case 15 -> due("run", x.run(b), y.run(b), b);
            case 16 -> { if (random.nextInt(9) == 0) due("begin", x.begin(), y.begin()); }
            case 17 -> due("soonest", x.soonest(m, b - 1), y.soonest(m, b - 1), m, b - 1);
            case 18 -> due("cheapest", x.cheapest(m, b % 4), y.cheapest(m, b % 4), m, b % 4);
            case 19 -> due("likeliest", x.likeliest(m, b % 4), y.likeliest(m, b % 4), m, b % 4);
            case 20 -> due("together", x.together(a % 15), y.together(a % 15), a % 15);
            case 21 -> due("stopped", x.stopped(m, b - 1), y.stopped(m, b - 1), m, b - 1);
            case 22 -> due("tried", x.tried(m, b % 9), y.tried(m, b % 9), m, b % 9);
            case 23 -> due("let", x.let(s, a, b % 3), y.let(s, a, b % 3), s, a, b % 3);
            case 24 -> callBook(m, s, h);
            case 25 -> due("seed", x.seed(s * 977), y.seed(s * 977), s * 977);
            default -> callImage(near(2));
        }
    }

    private void callBook(int m, int s, int h) {
        int latest = y.book.isEmpty() ? near(20) : y.book.get(y.book.size() - 1)[0] + (random.nextInt(20) == 0 ? 0 : 1);
        if (random.nextInt(12) == 0) due("tear", x.tear(), y.tear());
        int writes = random.nextInt(6);
        for (int i = 0; i < writes; i++) {
            int day = latest + i, sleeper = random.nextInt(4) == 0 ? s : i, house = random.nextInt(4) == 0 ? h : i;
            due("write", x.write(day, sleeper, house), y.write(day, sleeper, house), day, sleeper, house);
        }
        due("judge", x.judge(m), y.judge(m), m);
    }

    private void callImage(int i) {
        if (random.nextBoolean()) due("keep", x.keep(i), y.keep(i), i);
        else due("goBack", x.goBack(i), y.goBack(i), i);
    }
}
