import java.util.ArrayList;
import java.util.List;
import java.util.function.Supplier;
import java.util.function.ToIntFunction;

/**
 * What is refused changes nothing: one of two objects that were made alike gets the call, the other is spared it, and
 * then both must answer alike whatever they are asked.
 */
final class Twin {
    /** Far and near arguments that no bound of the document lets in, beside those just outside a bound. */
    static final int[] FAR = {Integer.MIN_VALUE, SleptMatters.OUTSIDE, -1000, 1000000, Integer.MAX_VALUE};

    private static final String TOWN = "house 0 1;house 1 2;house 2 4;sleeper 3 100 5;sleeper 9 50 20;sleeper 4 0 1;sleeper 0 70 9;"
        + "noise 1 2 3 4;noise 0 6 6 9;matter 0 40 100 3;matter 1 50 90 2;";

    private Twin() { }

    /** Something of all there is: nights, one that is decided, who is laid, wages, a seed, a book, image 0, a text. */
    static SleptMatters rich() {
        SleptMatters x = richWithoutText();
        Due.feed(x, "house 2 3;matter 7 8 9 1;");
        return x;
    }

    static SleptMatters richWithoutText() {
        SleptMatters x = Due.with(TOWN, "nights 2;yes 1;on;");
        x.seed(4711);
        x.run(1);
        x.keep(0);
        x.run(1);
        x.lay(1, 2, 1);
        x.write(3, 1, 0);
        x.write(4, 2, 1);
        x.write(4, 3, 2);
        Due.town(x, "house 9");
        return x;
    }

    static void refused(String name, int due, Supplier<SleptMatters> making, ToIntFunction<SleptMatters> call) {
        SleptMatters x = making.get();
        SleptMatters twin = making.get();
        Due.is(name, call.applyAsInt(x), due);
        Due.is(name + ": then fault", x.fault(), twin.fault());
        alike(name, x, twin);
    }

    static void refusedByRich(String name, int due, ToIntFunction<SleptMatters> call) {
        refused(name, due, Twin::rich, call);
    }

    /** Neither can be used behind this: texts are read and images gone back to. */
    static void alike(String name, SleptMatters x, SleptMatters twin) {
        List<String> asked = new ArrayList<>();
        List<Integer> got = everything(x, asked);
        List<Integer> want = everything(twin, new ArrayList<>());
        Due.is(name + ": then as much can be asked", got.size(), want.size());
        for (int i = 0; i < Math.min(got.size(), want.size()); i++) Due.is(name + ": then " + asked.get(i), got.get(i), want.get(i));
    }

    private static List<Integer> everything(SleptMatters x, List<String> asked) {
        List<Integer> answers = new ArrayList<>();
        askTown(x, asked, answers);
        askCourse("", x, asked, answers);
        askRows(x, asked, answers);
        for (int i = 0; i < 2; i++) {
            note("goBack " + i, x.goBack(i), asked, answers);
            askCourse("behind goBack " + i + ": ", x, asked, answers);
        }
        note("town()", x.town(), asked, answers);
        note("then its fault", x.fault(), asked, answers);
        note("then told 0", x.told(0), asked, answers);
        if (x.told(0) > 0) note("then house 0 1", x.house(0, 1), asked, answers);
        if (x.told(2) > 0) note("then matter 0 0", x.matter(0, 0), asked, answers);
        for (int i = 3; i < 6; i++) note("then told " + i, x.told(i), asked, answers);
        return answers;
    }

    private static void note(String what, int answer, List<String> asked, List<Integer> answers) {
        asked.add(what);
        answers.add(answer);
    }

    /** What there is not is not asked for: a refusal that changes something would change both. */
    private static void askTown(SleptMatters x, List<String> asked, List<Integer> answers) {
        for (int i = 0; i <= 10; i++) note("told " + i, x.told(i), asked, answers);
        for (int i = 0; i < x.told(0); i++) {
            for (int what = 0; what < 2; what++) note("house " + i + " " + what, x.house(i, what), asked, answers);
        }
        for (int i = 0; i < x.told(1); i++) {
            for (int what = 0; what < 3; what++) note("sleeper " + i + " " + what, x.sleeper(i, what), asked, answers);
        }
        for (int i = 0; i < x.told(2); i++) {
            for (int what = 0; what < 4; what++) note("matter " + i + " " + what, x.matter(i, what), asked, answers);
            note("judge " + i, x.judge(i), asked, answers);
        }
        for (int street = 0; street < 4; street++) {
            for (int day = 0; day < 8; day += 3) note("noise " + street + " " + day, x.noise(street, day), asked, answers);
        }
    }

    private static void askCourse(String when, SleptMatters x, List<String> asked, List<Integer> answers) {
        note(when + "day", x.told(6), asked, answers);
        note(when + "wages", x.told(7), asked, answers);
        note(when + "score", x.told(10), asked, answers);
        for (int i = 0; i < x.told(0); i++) note(when + "beds free in " + i, x.house(i, 2), asked, answers);
        for (int i = 0; i < x.told(1); i++) note(when + "laid " + i, x.sleeper(i, 3), asked, answers);
        for (int m = 0; m < x.told(2); m++) {
            for (int what = 4; what < 10; what++) note(when + "matter " + m + " " + what, x.matter(m, what), asked, answers);
        }
        int seed = x.seed(0);
        x.seed(seed);
        note(when + "seed", seed, asked, answers);
    }

    private static void askRows(SleptMatters x, List<String> asked, List<Integer> answers) {
        for (int m = 0; m < x.told(2); m++) {
            for (int i = -1; i < 4; i++) note("soonest " + m + " " + i, x.soonest(m, i), asked, answers);
            for (int what = 0; what < 3; what++) note("cheapest " + m + " " + what, x.cheapest(m, what), asked, answers);
            for (int what = 0; what < 3; what++) note("likeliest " + m + " " + what, x.likeliest(m, what), asked, answers);
            for (int i = -1; i < 2; i++) note("stopped " + m + " " + i, x.stopped(m, i), asked, answers);
            note("tried " + m, x.tried(m, 3), asked, answers);
            note("together: place " + m, x.together(1 + m), asked, answers);
            note("together: end " + m, x.together(11 + m), asked, answers);
        }
        for (int s = 0; s < x.told(1); s++) note("let " + s, x.let(s, 2, 0), asked, answers);
        note("together", x.together(0), asked, answers);
    }
}
