import java.util.function.ToIntFunction;

/** The bounds of promises 1 to 10: the last input that is taken, the first that is not, and what a refusal leaves. */
public final class TextBoundsTest {
    private static final int NONE = SleptMatters.NONE, UNKNOWN = SleptMatters.UNKNOWN, OUTSIDE = SleptMatters.OUTSIDE;

    public static void main(String[] args) {
        refusalsThemselves();
        newObjectIsEmpty();
        feedCount();
        feedOrder();
        feedFull();
        townLength();
        numbersOfHouses();
        numbersOfSleepers();
        numbersOfNoise();
        numbersOfMatters();
        howManyClauses();
        risingNumbers();
        figures();
        blanks();
        bytesThatCannotStand();
        endOfText();
        leastOfFaultsAtOneByte();
        firstOfFaults();
        faultyTownChangesNothing();
        lawLength();
        numbersOfLaws();
        yesUntold();
        lawsOnce();
        faultyLawsChangeNothing();
        faultIsTheLatest();
        toldBounds();
        partsBounds();
        noiseBounds();
        Due.end();
    }

    private static void refusalsThemselves() {
        Due.is("NONE", NONE, -1);
        Due.is("UNKNOWN", UNKNOWN, -1000000001);
        Due.is("OUTSIDE", OUTSIDE, -1000000002);
        Due.is("NOT", SleptMatters.NOT, -1000000003);
        Due.is("FULL", SleptMatters.FULL, -1000000004);
    }

    private static void newObjectIsEmpty() {
        SleptMatters x = new SleptMatters();
        for (int i = 0; i < 3; i++) {
            Due.is("new: house", x.house(0, i), UNKNOWN);
            Due.is("new: sleeper", x.sleeper(0, i), UNKNOWN);
            Due.is("new: matter", x.matter(0, i), UNKNOWN);
            Due.is("new: cheapest", x.cheapest(0, i), UNKNOWN);
            Due.is("new: likeliest", x.likeliest(0, i), UNKNOWN);
            Due.is("new: together", x.together(i), i == 0 ? 0 : OUTSIDE);
            Due.is("new: an end", x.together(11 + i), OUTSIDE);
        }
        Due.is("new: noise", x.noise(3, 999), 0);
        Due.is("new: lay", x.lay(0, 0, 0), UNKNOWN);
        Due.is("new: rise", x.rise(0), UNKNOWN);
        Due.is("new: soonest", x.soonest(0, NONE), UNKNOWN);
        Due.is("new: stopped", x.stopped(0, NONE), UNKNOWN);
        Due.is("new: tried", x.tried(0, 1), UNKNOWN);
        Due.is("new: let", x.let(0, 0, 0), UNKNOWN);
        Due.is("new: write", x.write(0, 0, 0), UNKNOWN);
        Due.is("new: tear", x.tear(), 0);
        Due.is("new: judge", x.judge(0), UNKNOWN);
        Due.is("new: goBack 1", x.goBack(1), SleptMatters.NOT);
        Due.is("new: begin", x.begin(), 0);
        Due.is("new: run", x.run(100), 0);
        Due.is("new: day", x.told(6), 100);
        Due.is("new: town", x.town(), 0);
        Due.is("new: laws", x.laws(), 0);
        Due.is("new: score", x.told(10), 0);
    }

    private static void feedCount() {
        for (int n = 1; n <= 8; n++) Due.is("feed " + n, new SleptMatters().feed(n, -1), n);
        int[] outside = {0, 9, -1, -8, 256, 264};
        for (int n : outside) Twin.refusedByRich("feed " + n, OUTSIDE, x -> x.feed(n, ' '));
        for (int n : Twin.FAR) Twin.refusedByRich("feed " + n, OUTSIDE, x -> x.feed(n, ' '));
    }

    private static void feedOrder() {
        // All eight bytes of the long, the sign bit among them; and of nine ones that are told only eight could be.
        SleptMatters x = new SleptMatters();
        x.feed(8, 0x686f757365332034L);
        x.feed(1, ';');
        Due.is("highest first", x.town(), 0);
        Due.is("highest first: street", x.house(0, 0), 3);
        Due.is("highest first: beds", x.house(0, 1), 4);
        for (int n = 1; n <= 8; n++) {
            // Above the lowest n bytes stands what would be a fault of its own.
            long blanks = 0x2020202020202020L >>> 8 * (8 - n);
            long above = n == 8 ? 0 : 0x7878787878787878L << 8 * n;
            x = new SleptMatters();
            x.feed(n, above | blanks);
            Due.is("only the lowest " + n, x.town(), 0);
            x.feed(n, above | blanks >>> 8 | (long) 'x' << 8 * (n - 1));
            Due.is("the highest of " + n + " is faulty", x.town(), -11);
            Due.is("the highest of " + n + " is first", x.fault(), 0);
            x.feed(n, above | blanks << 8 & ~0xffL | 'x');
            Due.is("the lowest of " + n + " is faulty", x.town(), -11);
            Due.is("the lowest of " + n + " is last", x.fault(), n - 1);
        }
        x = new SleptMatters();
        x.feed(8, 0xe8202020202020ffL);
        x.town();
        Due.is("a sign bit is a byte above 127", x.fault(), 0);
    }

    private static SleptMatters fed(int bytes) {
        SleptMatters x = Twin.richWithoutText();
        Due.feed(x, Due.times(bytes, " "));
        return x;
    }

    private static void feedFull() {
        for (int n = 1; n <= 8; n++) {
            int count = n;
            Due.is("up to 500 by " + n, fed(500 - n).feed(n, 0x2020202020202020L), 500);
            Twin.refused("501 by " + n, SleptMatters.FULL, () -> fed(501 - count), x -> x.feed(count, ' '));
            Twin.refused("500 and " + n, SleptMatters.FULL, () -> fed(500), x -> x.feed(count, ' '));
        }
        Twin.refused("OUTSIDE ahead of FULL", OUTSIDE, () -> fed(500), x -> x.feed(9, ' '));
        Twin.refused("OUTSIDE ahead of FULL, 0", OUTSIDE, () -> fed(500), x -> x.feed(0, ' '));
        SleptMatters x = fed(500);
        x.town();
        Due.is("room again behind town", x.feed(8, 0x2020202020202020L), 8);
    }

    private static void townLength() {
        String blanks = Due.times(485, " ");
        SleptMatters x = new SleptMatters();
        Due.is("the 500th byte ends it", Due.town(x, "matter 0 0 0 0" + blanks + ";"), 1);
        Due.is("the 500th byte lacks", Due.town(x, "matter 0 0 0 0" + blanks + " "), -11);
        Due.is("the end is 500", x.fault(), 500);
        Due.is("the 500th byte is faulty", Due.town(x, "matter 0 0 0 0;" + blanks.substring(1) + "x"), -11);
        Due.is("it is byte 499", x.fault(), 499);
        Due.is("an empty text", x.town(), 0);
        Due.is("an empty town", x.told(0) + x.told(1) + x.told(2), 0);
        String all = Due.times(7, "house3 4;sleeper9 1 9;") + Due.times(20, "noise3 0 9 9;") + Due.times(3, "matter0 99 9 9;");
        all += Due.times(500 - all.length(), " ");
        Due.is("all that there may be, in 500", Due.town(x, all), 3);
        Due.is("seven houses", x.told(0), 7);
        Due.is("seven sleepers", x.told(1), 7);
        Due.is("twenty times nine", x.noise(3, 9), 180);
    }

    /** A number in its place: both its bounds are taken and read back, the ones beside them are fault 2. */
    private static void number(String ahead, int least, int greatest, String behind, ToIntFunction<SleptMatters> readBack) {
        int[] taken = {least, greatest, (least + greatest) / 2};
        for (int v : taken) {
            SleptMatters x = new SleptMatters();
            Due.is(ahead + v + behind, Due.town(x, ahead + v + behind) < 0 ? 1 : 0, 0);
            Due.is(ahead + v + behind + " has no fault", x.fault(), NONE);
            Due.is(ahead + v + behind + " read back", readBack.applyAsInt(x), v);
        }
        if (least > 0) faulty(ahead + (least - 1) + behind, 2, ahead.length());
        faulty(ahead + (greatest + 1) + behind, 2, ahead.length());
        faulty(ahead + 999 + behind, greatest == 999 ? 0 : 2, ahead.length());
        faulty(ahead + 1000 + behind, 2, ahead.length());
    }

    private static void faulty(String text, int number, int at) {
        SleptMatters x = new SleptMatters();
        int answer = Due.town(x, text);
        if (number == 0) {
            Due.is("no fault in " + text, x.fault(), NONE);
            return;
        }
        Due.is("town " + text, answer, -10 - number);
        Due.is("byte of the fault in " + text, x.fault(), at);
        Due.is("nothing told by " + text, x.told(0) + x.told(1) + x.told(2), 0);
    }

    private static void numbersOfHouses() {
        number("house ", 0, 3, " 1;", x -> x.house(0, 0));
        number("house 0 ", 1, 4, ";", x -> x.house(0, 1));
    }

    private static void numbersOfSleepers() {
        number("sleeper ", 0, 9, " 0 0;", x -> x.sleeper(0, 0));
        number("sleeper 0 ", 0, 100, " 0;", x -> x.sleeper(0, 1));
        number("sleeper 0 0 ", 0, 99, ";", x -> x.sleeper(0, 2));
    }

    private static int firstLoudStreet(SleptMatters x) {
        for (int street = 0; street < 4; street++) if (x.noise(street, 5) > 0) return street;
        return NONE;
    }

    private static int firstLoudDay(SleptMatters x) {
        for (int day = 0; day < 100; day++) if (x.noise(1, day) > 0) return day;
        return NONE;
    }

    private static int lastLoudDay(SleptMatters x) {
        for (int day = 105; day >= 0; day--) if (x.noise(1, day) > 0) return day;
        return NONE;
    }

    private static void numbersOfNoise() {
        number("noise ", 0, 3, " 5 5 1;", TextBoundsTest::firstLoudStreet);
        number("noise 1 ", 0, 99, " 99 1;", TextBoundsTest::firstLoudDay);
        number("noise 1 0 ", 0, 99, " 1;", TextBoundsTest::lastLoudDay);
        number("noise 1 5 5 ", 1, 9, ";", x -> x.noise(1, 5));
    }

    private static void numbersOfMatters() {
        number("matter ", 0, 99, " 99 0 0;", x -> x.matter(0, 0));
        number("matter 0 ", 0, 99, " 0 0;", x -> x.matter(0, 1));
        number("matter 0 0 ", 0, 999, " 0;", x -> x.matter(0, 2));
        number("matter 0 0 0 ", 0, 99, ";", x -> x.matter(0, 3));
    }

    private static void many(String clause, int most, ToIntFunction<SleptMatters> count) {
        SleptMatters x = new SleptMatters();
        Due.town(x, Due.times(most, clause));
        Due.is(most + " times " + clause, x.fault(), NONE);
        Due.is(most + " times " + clause + " stand", count.applyAsInt(x), most);
        int at = most * clause.length();
        faulty(Due.times(most, clause) + clause, 3, at);
        faulty(Due.times(most, clause) + "  " + clause, 3, at + 2);
        // What follows the word is not looked at any more, but the word must be whole.
        String word = clause.substring(0, clause.indexOf(' '));
        faulty(Due.times(most, clause) + word, 3, at);
        faulty(Due.times(most, clause) + word + " 9999", 3, at);
        faulty(Due.times(most, clause) + word + "s 0", 1, at);
        faulty(Due.times(most, clause) + word.substring(1), 1, at);
    }

    private static void howManyClauses() {
        many("house 0 1;", 7, x -> x.told(0));
        many("sleeper 0 0 0;", 7, x -> x.told(1));
        many("noise 0 0 0 1;", 20, x -> x.noise(0, 0));
        many("matter 0 0 0 0;", 3, x -> x.told(2));
    }

    private static void risingNumbers() {
        int[] days = {1, 50, 99};
        for (int day : days) {
            String noise = "noise 0 " + day + " ";
            String matter = "matter " + day + " ";
            faulty(noise + day + " 1;", 0, 0);
            faulty(matter + day + " 0 0;", 0, 0);
            faulty(noise + (day - 1) + " 1;", 4, noise.length());
            faulty(matter + (day - 1) + " 0 0;", 4, matter.length());
            faulty(noise + "0 1;", 4, noise.length());
            faulty(matter + "0 0 0;", 4, matter.length());
        }
        faulty("noise 0 0 0 1;", 0, 0);
        faulty("matter 0 0 0 0;", 0, 0);
        // The other numbers need not rise.
        faulty("house 3 1;sleeper 9 5 1;noise 3 1 1 1;matter 9 9 2 1;", 0, 0);
    }

    private static void figures() {
        faulty("house 000 001;", 0, 0);
        faulty("house 0000 1;", 2, 6);
        faulty("house 0 0001;", 2, 8);
        faulty("sleeper 009 100 099;", 0, 0);
        faulty("sleeper 0009 1 1;", 2, 8);
        // Numbers so long that they would come round to a small one.
        faulty("house 4294967296 1;", 2, 6);
        faulty("house 18446744073709551616 1;", 2, 6);
        faulty("house " + Due.times(493, "0") + ";", 2, 6);
    }

    private static void blanks() {
        faulty("house0 1;", 0, 0);
        faulty(" house 0 1 ; ", 0, 0);
        faulty("house 0 1;house 0 1;", 0, 0);
        faulty("house01;", 1, 7);
        faulty("house 01;", 1, 8);
        faulty("hou se 0 1;", 1, 0);
        faulty("sleeper 1 2 3 4;", 1, 14);
        faulty("sleeper 1 23;", 1, 12);
        faulty("sleeper 1 2 1 0;", 1, 14);
    }

    private static void bytesThatCannotStand() {
        // Every byte there is, ahead of a clause, behind its word, between its numbers, behind them.
        for (int b = 0; b < 256; b++) {
            String sign = String.valueOf((char) b);
            boolean isFigure = b >= '0' && b <= '9';
            boolean isLetter = b >= 'a' && b <= 'z';
            if (b != ' ') faulty(sign + " house 1 1;", 1, 0);
            if (b != ' ' && !isFigure) faulty("house" + sign + "1 1;", 1, isLetter ? 0 : 5);
            if (b != ' ' && !isFigure) faulty("house 1" + sign + "1;", 1, 7);
            if (b != ' ' && b != ';' && !isFigure) faulty("house 1 1" + sign, 1, 9);
            if (b != ' ') faulty("house 1 1;" + sign, 1, 10);
        }
    }

    private static void endOfText() {
        String clause = "noise 0 1 2 3;";
        for (int n = 1; n < clause.length(); n++) {
            String part = clause.substring(0, n);
            boolean isWithinWord = n < 5;
            faulty(part, 1, isWithinWord ? 0 : n);
            faulty(part + "   ", 1, isWithinWord ? 0 : n + 3);
        }
        faulty(clause, 0, 0);
        faulty("", 0, 0);
    }

    private static void leastOfFaultsAtOneByte() {
        faulty("noise 0 5 0004 1;", 2, 10);
        faulty("matter 5 0004 1 1;", 2, 9);
        // An eighth house where no word may stand.
        faulty(Due.times(6, "house 0 1;") + "house 0 1 house 0 1;", 1, 70);
        faulty(Due.times(3, "matter 0 0 0 0;") + "house matter 0 0 0 0;", 1, 51);
    }

    private static void firstOfFaults() {
        faulty("noise 0 5 4 0;", 4, 10);
        faulty("noise 4 5 4 0;", 2, 6);
        faulty("house 0 5,", 2, 8);
        faulty("house 0 1,house 0 5;", 1, 9);
        faulty(Due.times(7, "house 0 1;") + "house 0 1;house 9 9;", 3, 70);
        faulty("house 9 1;" + Due.times(8, "house 0 1;"), 2, 6);
    }

    private static void faultyTownChangesNothing() {
        String[] texts = {"house", "house 0 5;", Due.times(8, "house 0 1;"), "matter 5 4 0 0;", "house 3 3;sleeper 1 1 1;noise 0 0 99 9;matter 1 1 1 1;x"};
        int[] numbers = {1, 2, 3, 4, 1};
        int[] at = {5, 8, 70, 9, 54};
        for (int i = 0; i < texts.length; i++) {
            SleptMatters x = Twin.richWithoutText();
            Due.is("a faulty town: " + texts[i], Due.town(x, texts[i]), -10 - numbers[i]);
            Due.is("a faulty town: " + texts[i] + ": byte", x.fault(), at[i]);
            Twin.alike("a faulty town: " + texts[i], x, Twin.richWithoutText());
        }
    }

    private static void lawLength() {
        String blanks = Due.times(197, " ");
        SleptMatters x = new SleptMatters();
        Due.is("the 200th byte ends it", Due.laws(x, "on" + blanks + ";"), 1);
        Due.is("the 200th byte ends it: on", x.told(5), 0);
        Due.is("the 200th byte lacks", Due.laws(x, "on" + blanks + " "), -11);
        Due.is("the end is 200", x.fault(), 200);
        Due.is("an empty text", x.laws(), 0);
        Due.is("an empty text: as untold", x.told(5), 1);
        int[] lengths = {201, 202, 256, 499, 500};
        for (int length : lengths) {
            Twin.refused(length + " bytes of laws", SleptMatters.NOT, () -> fed(length), SleptMatters::laws);
        }
        x = fed(200);
        Due.is("200 blanks", x.laws(), 0);
        x = fed(201);
        x.laws();
        Due.is("what laws refuse is still a town", x.town(), 0);
    }

    private static void faultyLaws(String text, int number, int at) {
        SleptMatters x = new SleptMatters();
        Due.laws(x, "nights 5;yes 2;on;");
        Due.is("laws " + text, Due.laws(x, text), -10 - number);
        Due.is("byte of the fault in " + text, x.fault(), at);
        Due.is("K behind " + text, x.told(3), 5);
        Due.is("yes behind " + text, x.told(4), 2);
        Due.is("on behind " + text, x.told(5), 0);
        Due.is("text behind " + text, x.told(8), 0);
    }

    private static void lawNumber(String word, int least, int greatest, int told) {
        for (int v = least; v <= greatest; v++) {
            SleptMatters x = new SleptMatters();
            Due.is(word + v, Due.laws(x, word + v + ";"), 1);
            Due.is(word + v + " told", x.told(told), v);
        }
        if (least > 0) faultyLaws(word + (least - 1) + ";", 2, word.length());
        faultyLaws(word + (greatest + 1) + ";", 2, word.length());
        faultyLaws(word + "10;", 2, word.length());
        faultyLaws(word + "0001;", 2, word.length());
        faultyLaws(word + "99999999999;", 2, word.length());
    }

    private static void numbersOfLaws() {
        lawNumber("nights ", 1, 7, 3);
        lawNumber("yes ", 0, 7, 4);
        SleptMatters x = new SleptMatters();
        Due.is("yes above K", Due.laws(x, "yes 7;nights 1;"), 2);
        Due.is("yes above K stays", x.told(4), 7);
        faultyLaws("on 1;", 1, 3);
        faultyLaws("again1;", 1, 5);
        faultyLaws("nights;", 1, 6);
        faultyLaws("yes 1 1;", 1, 6);
        faultyLaws(";", 1, 0);
        faultyLaws("house 0 1;", 1, 0);
        faultyLaws("onagain;", 1, 0);
        faultyLaws("on again;", 1, 3);
    }

    private static void yesUntold() {
        int[] due = {0, 1, 2, 2, 3, 3, 4, 4};
        for (int k = 1; k <= 7; k++) {
            SleptMatters x = new SleptMatters();
            Due.laws(x, "nights " + k + ";");
            Due.is("half of " + k + " and 1", x.told(4), due[k]);
        }
    }

    private static void lawsOnce() {
        SleptMatters x = new SleptMatters();
        Due.is("each once", Due.laws(x, "nights 2;yes 1;again;"), 3);
        Due.is("each once in another order", Due.laws(x, "on;yes 1;nights 2;"), 3);
        faultyLaws("nights 2;nights 2;", 3, 9);
        faultyLaws("yes 1;yes 1;", 3, 6);
        faultyLaws("again;again;", 3, 6);
        faultyLaws("on;on;", 3, 3);
        faultyLaws("again;on;", 3, 6);
        faultyLaws("on;again;", 3, 3);
        faultyLaws("on; yes 1;nights 2;on", 3, 19);
        // A word that was told already, where none may stand.
        faultyLaws("nights 2 nights 2;", 1, 9);
        faultyLaws("nights 2;nightss 2;", 1, 9);
    }

    private static void faultyLawsChangeNothing() {
        String[] texts = {"nights 3;again", "nights 3;yes 8;", "again;nights 5;nights 6;"};
        int[] numbers = {1, 2, 3};
        for (int i = 0; i < texts.length; i++) {
            SleptMatters x = Twin.richWithoutText();
            Due.is("faulty laws: " + texts[i], Due.laws(x, texts[i]), -10 - numbers[i]);
            Twin.alike("faulty laws: " + texts[i], x, Twin.richWithoutText());
        }
    }

    private static void faultIsTheLatest() {
        SleptMatters x = new SleptMatters();
        Due.is("fault at first", x.fault(), NONE);
        Due.town(x, "x");
        Due.is("fault at byte 0", x.fault(), 0);
        Due.laws(x, "  x");
        Due.is("fault of laws behind a town's", x.fault(), 2);
        Due.feed(x, Due.times(201, " "));
        x.laws();
        Due.is("NOT leaves it", x.fault(), 2);
        x.feed(9, 0);
        x.begin();
        x.lay(0, 0, 0);
        Due.is("other calls leave it", x.fault(), 2);
        x.town();
        Due.is("a good town takes it", x.fault(), NONE);
        Due.town(x, "x");
        x.laws();
        Due.is("good laws take it", x.fault(), NONE);
    }

    private static void toldBounds() {
        for (int what = 0; what <= 10; what++) Due.is("told " + what, Twin.rich().told(what) < -1000 ? 1 : 0, 0);
        int[] outside = {-1, 11, 12};
        for (int what : outside) Twin.refusedByRich("told " + what, OUTSIDE, x -> x.told(what));
        for (int what : Twin.FAR) Twin.refusedByRich("told " + what, OUTSIDE, x -> x.told(what));
    }

    private static void parts(String name, int count, int parts, Part part) {
        SleptMatters x = Twin.rich();
        for (int i = 0; i < count; i++) {
            for (int what = 0; what < parts; what++) Due.is(name + i + " " + what, part.of(x, i, what) < NONE ? 1 : 0, 0);
        }
        int[] near = {-1, count};
        int[] outside = {-1, parts};
        for (int i : near) Twin.refusedByRich(name + i, UNKNOWN, y -> part.of(y, i, 0));
        for (int i : Twin.FAR) Twin.refusedByRich(name + i, UNKNOWN, y -> part.of(y, i, 0));
        for (int what : outside) Twin.refusedByRich(name + "what " + what, OUTSIDE, y -> part.of(y, count - 1, what));
        for (int what : Twin.FAR) Twin.refusedByRich(name + "what " + what, OUTSIDE, y -> part.of(y, 0, what));
        Twin.refusedByRich(name + "UNKNOWN ahead of OUTSIDE", UNKNOWN, y -> part.of(y, count, parts));
        Twin.refusedByRich(name + "UNKNOWN ahead of OUTSIDE, below", UNKNOWN, y -> part.of(y, -1, -1));
    }

    private interface Part {
        int of(SleptMatters x, int i, int what);
    }

    private static void partsBounds() {
        parts("house ", 3, 3, SleptMatters::house);
        parts("sleeper ", 4, 4, SleptMatters::sleeper);
        parts("matter ", 2, 10, SleptMatters::matter);
        SleptMatters x = Due.with(Due.times(7, "house 3 4;sleeper 9 100 99;") + Due.times(3, "matter 99 99 999 99;"), "");
        Due.is("house 6", x.house(6, 1), 4);
        Due.is("house 7", x.house(7, 1), UNKNOWN);
        Due.is("sleeper 6", x.sleeper(6, 2), 99);
        Due.is("sleeper 7", x.sleeper(7, 2), UNKNOWN);
        Due.is("matter 2", x.matter(2, 2), 999);
        Due.is("matter 3", x.matter(3, 2), UNKNOWN);
    }

    private static void noiseBounds() {
        SleptMatters x = Due.with("noise 0 0 0 1;noise 3 99 99 9;noise 3 98 99 9;", "");
        Due.is("noise on day 0", x.noise(0, 0), 1);
        Due.is("noise on day 1", x.noise(0, 1), 0);
        Due.is("noise on day 97", x.noise(3, 97), 0);
        Due.is("noise on day 98", x.noise(3, 98), 9);
        Due.is("noise on day 99", x.noise(3, 99), 18);
        Due.is("behind day 99 there is none", x.noise(3, 100), 0);
        Due.is("noise on day 999", x.noise(3, 999), 0);
        int[][] outside = {{-1, 0}, {4, 0}, {0, -1}, {3, 1000}, {4, 1000}, {-1, -1}};
        for (int[] o : outside) Twin.refusedByRich("noise " + o[0] + " " + o[1], OUTSIDE, y -> y.noise(o[0], o[1]));
        for (int far : Twin.FAR) {
            Twin.refusedByRich("noise in " + far, OUTSIDE, y -> y.noise(far, 0));
            Twin.refusedByRich("noise on " + far, OUTSIDE, y -> y.noise(0, far));
        }
    }
}
