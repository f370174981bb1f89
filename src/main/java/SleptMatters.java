import java.util.Arrays;

/** A town in which nothing is decided before so many people have slept on it. */
public final class SleptMatters {
    public static final int NONE = -1, UNKNOWN = -1000000001, OUTSIDE = -1000000002, NOT = -1000000003, FULL = -1000000004;

    private static final int MILLION = 1000000;
    private static final int HOUSE = 0, SLEEPER = 1, NOISE = 2, MATTER = 3, KINDS = 4;
    private static final int MOST_HOUSES = 7, MOST_SLEEPERS = 7, MOST_NOISES = 20, MOST_MATTERS = 3, MOST_NIGHTS = 7;
    private static final int STREETS = 4, DAYS = 100, LAST_DAY = 99, LAST_TOLD_DAY = 999, MOST_RUN = 100;
    private static final int TOWN_BYTES = 500, LAW_BYTES = 200, FEED_BYTES = 8, BOOK_NIGHTS = 20, IMAGES = 2;
    private static final int SETS = 128, SETS_IN_A_LONG = 64, LAST_HOUSE = 6;
    private static final int OPEN = 0, YES = 1, NO = 2;

    // The faults of a text; the answer to a faulty one is FAULTY less its number.
    private static final int CANNOT_STAND = 1, BAD_NUMBER = 2, TOO_MANY = 3, BELOW = 4, FAULTY = -10;

    // The clauses of a town: how many of each, how many numbers, their bounds, which must not be below the one ahead.
    private static final int PARTS = 4;
    private static final int[] MOST = {MOST_HOUSES, MOST_SLEEPERS, MOST_NOISES, MOST_MATTERS};
    private static final int[] PARTS_OF = {2, 3, 4, 4};
    private static final int[] LEAST = {0, 1, 0, 0, 0, 0, 0, 0, 0, 0, 0, 1, 0, 0, 0, 0};
    private static final int[] GREATEST = {3, 4, 0, 0, 9, 100, 99, 0, 3, 99, 99, 9, 99, 99, 999, 99};
    private static final int[] RISING_PART = {NONE, NONE, 2, 1};
    private static final int STREET = 0, BEDS = 1;
    private static final int LIGHT = 0, DREAM = 1, WAGE = 2;
    private static final int NOISE_STREET = 0, NOISE_FROM = 1, NOISE_TO = 2, NOISE_MORE = 3;
    private static final int FROM = 0, UNTIL = 1, WORTH = 2, COST = 3;

    // The clauses of laws; AGAIN and ON are one, told in two ways.
    private static final int NIGHTS_LAW = 0, YES_LAW = 1, AGAIN_LAW = 2, ON_LAW = 3;

    // Bit p of LACKS[h] stands where the SET p of houses 0 .. 5 lacks house h.
    private static final long[] LACKS = {0x5555555555555555L, 0x3333333333333333L, 0x0f0f0f0f0f0f0f0fL,
        0x00ff00ff00ff00ffL, 0x0000ffff0000ffffL, 0x00000000ffffffffL};

    // The orders of one, two, three matters, the lesser ahead: where they begin, how many there are.
    private static final int[] ORDERS = {0, 0, 1, 1, 0, 0, 1, 2, 0, 2, 1, 1, 0, 2, 1, 2, 0, 2, 0, 1, 2, 1, 0};
    private static final int[] ORDERS_AT = {0, 0, 1, 5};
    private static final int[] ORDERS_COUNT = {1, 1, 2, 6};

    private final Text text = new Text();
    private final Course course = new Course();
    private final Course[] images = {new Course(), new Course()};
    private final boolean[] imageKept = new boolean[IMAGES];
    private final Book book = new Book();
    private final Rows rows;
    private final Plan plan;
    private final Choice choice;
    private Town place = new Town();
    private Town placeInMaking = new Town();
    private Law law = new Law();
    private Law lawInMaking = new Law();
    private int faultByte = NONE;

    public SleptMatters() {
        rows = new Rows(place);
        plan = new Plan(rows);
        choice = new Choice(rows);
    }

    // ---- texts

    public int feed(int n, long bytes) {
        if (n < 1 || n > FEED_BYTES) return OUTSIDE;
        if (text.size + n > TOWN_BYTES) return FULL;
        text.add(n, bytes);
        return text.size;
    }

    public int town() {
        placeInMaking.readFrom(text);
        int fault = endReading();
        if (fault != 0) return FAULTY - fault;
        Town old = place;
        place = placeInMaking;
        placeInMaking = old;
        rows.moveTo(place);
        plan.isKnown = false;
        course.startAgain();
        book.size = 0;
        for (int i = 0; i < IMAGES; i++) imageKept[i] = false;
        return place.count(MATTER);
    }

    public int laws() {
        if (text.size > LAW_BYTES) return NOT;
        lawInMaking.readFrom(text);
        int fault = endReading();
        if (fault != 0) return FAULTY - fault;
        Law old = law;
        law = lawInMaking;
        lawInMaking = old;
        plan.isKnown = false;
        return law.clauses;
    }

    public int fault() {
        return faultByte;
    }

    public int told(int what) {
        switch (what) {
            case 0: return place.count(HOUSE);
            case 1: return place.count(SLEEPER);
            case 2: return place.count(MATTER);
            case 3: return law.nights;
            case 4: return law.yes;
            case 5: return law.again ? 1 : 0;
            case 6: return course.day;
            case 7: return course.wages;
            case 8: return text.size;
            case 9: return book.size;
            case 10: return course.score(place);
            default: return OUTSIDE;
        }
    }

    public int house(int h, int what) {
        if (!place.has(HOUSE, h)) return UNKNOWN;
        switch (what) {
            case 0: return place.part(HOUSE, h, STREET);
            case 1: return place.part(HOUSE, h, BEDS);
            case 2: return course.bedsFree(place, h);
            default: return OUTSIDE;
        }
    }

    public int sleeper(int s, int what) {
        if (!place.has(SLEEPER, s)) return UNKNOWN;
        switch (what) {
            case 0: return place.part(SLEEPER, s, LIGHT);
            case 1: return place.part(SLEEPER, s, DREAM);
            case 2: return place.part(SLEEPER, s, WAGE);
            case 3: return course.matterOf(s);
            default: return OUTSIDE;
        }
    }

    public int matter(int m, int what) {
        if (!place.has(MATTER, m)) return UNKNOWN;
        switch (what) {
            case 0: return place.part(MATTER, m, FROM);
            case 1: return place.part(MATTER, m, UNTIL);
            case 2: return place.part(MATTER, m, WORTH);
            case 3: return place.part(MATTER, m, COST);
            case 4: return Integer.bitCount(course.sleepers[m]);
            case 5: return course.yes[m];
            case 6: return course.outcome[m];
            case 7: return course.decidedOn[m];
            case 8: return course.sleepers[m];
            case 9: return course.houses[m];
            default: return OUTSIDE;
        }
    }

    public int noise(int street, int day) {
        if (street < 0 || street >= STREETS || day < 0 || day > LAST_TOLD_DAY) return OUTSIDE;
        return place.noiseOf(street, day);
    }

    // ---- nights

    public int lay(int m, int s, int h) {
        if (!place.has(MATTER, m) || !place.has(SLEEPER, s) || !place.has(HOUSE, h)) return UNKNOWN;
        boolean may = course.isMatterFree(place, m) && course.isSleeperFree(m, s) && course.isHouseFree(place, m, h);
        if (!may) return NOT;
        course.layDown(m, s, h);
        return course.laidTonight();
    }

    public int rise(int m) {
        if (!place.has(MATTER, m)) return UNKNOWN;
        int s = course.laidSleeper[m];
        if (s == NONE) return NOT;
        course.layDown(m, NONE, NONE);
        return s;
    }

    public int night() {
        return course.pass(place, law);
    }

    public int run(int n) {
        if (n < 1 || n > MOST_RUN) return OUTSIDE;
        for (int i = 0; i < n; i++) {
            course.layByThemselves(place);
            course.pass(place, law);
        }
        return course.decidedMatters();
    }

    public int begin() {
        int day = course.day;
        course.startAgain();
        return day;
    }

    // ---- rows

    public int soonest(int m, int i) {
        if (!place.has(MATTER, m)) return UNKNOWN;
        int end = rows.soonestEnd(firstDay(m), law.nights, LAST_DAY);
        if (i == NONE || end == NONE) return end;
        if (i < 0 || i / 2 >= law.nights) return NONE;
        rows.prepare(end, law.nights, rows.nothing);
        rows.readRow(law.nights);
        return i % 2 == 0 ? rows.rowSleepers[i / 2] : rows.rowHouses[i / 2];
    }

    public int cheapest(int m, int what) {
        return chosen(m, what, false);
    }

    public int likeliest(int m, int what) {
        return chosen(m, what, true);
    }

    public int together(int what) {
        int matters = place.count(MATTER);
        boolean isOrder = what >= 1 && what - 1 < matters;
        boolean isEnd = what >= 11 && what - 11 < matters;
        if (what != 0 && !isOrder && !isEnd) return OUTSIDE;
        plan.update(course.day, law.nights);
        if (isOrder) return plan.order[what - 1];
        if (isEnd) return plan.ends[what - 11];
        return plan.gain;
    }

    public int stopped(int m, int i) {
        if (!place.has(MATTER, m)) return UNKNOWN;
        return rows.loudDay(firstDay(m), law.nights, place.part(MATTER, m, UNTIL), i);
    }

    public int tried(int m, int nights) {
        if (!place.has(MATTER, m)) return UNKNOWN;
        if (nights < 1 || nights > MOST_NIGHTS) return OUTSIDE;
        return rows.soonestEnd(firstDay(m), nights, LAST_DAY);
    }

    public int let(int s, int day, int what) {
        if (!place.has(SLEEPER, s)) return UNKNOWN;
        if (day < 0 || day > LAST_DAY || what < 0 || what > 1) return OUTSIDE;
        int calm = place.calmHouses(s, day);
        return what == 0 ? place.bedsOf(calm) : place.roomiestOf(calm);
    }

    // ---- books, draws, images

    public int write(int day, int s, int h) {
        if (!place.has(SLEEPER, s) || !place.has(HOUSE, h)) return UNKNOWN;
        if (day < 0 || day > LAST_TOLD_DAY) return OUTSIDE;
        if (book.size >= BOOK_NIGHTS) return FULL;
        book.add(day, s, h);
        return book.size;
    }

    public int tear() {
        int nights = book.size;
        book.size = 0;
        return nights;
    }

    public int judge(int m) {
        if (!place.has(MATTER, m)) return UNKNOWN;
        return book.firstWrong(place, place.part(MATTER, m, FROM));
    }

    public int seed(int v) {
        if (v < 0) return OUTSIDE;
        int was = course.drawSeed;
        course.drawSeed = v;
        return was;
    }

    public int keep(int i) {
        if (i < 0 || i >= IMAGES) return UNKNOWN;
        images[i].copyFrom(course);
        imageKept[i] = true;
        return 1;
    }

    public int goBack(int i) {
        if (i < 0 || i >= IMAGES) return UNKNOWN;
        if (!imageKept[i]) return NOT;
        course.copyFrom(images[i]);
        return 1;
    }

    // ---- what several calls share

    /** The number of the fault that was found, 0 if there was none; the text is used up either way. */
    private int endReading() {
        faultByte = text.faultAt;
        text.size = 0;
        return text.faultNumber;
    }

    private int firstDay(int m) {
        return Math.max(course.day, place.part(MATTER, m, FROM));
    }

    private int chosen(int m, int what, boolean byOdds) {
        if (!place.has(MATTER, m)) return UNKNOWN;
        if (what < 0 || what > 2) return OUTSIDE;
        choice.make(law, firstDay(m), place.part(MATTER, m, UNTIL), byOdds);
        if (what == 0) return choice.value;
        return what == 1 ? choice.end : choice.set;
    }

    private static boolean isIn(int set, int k) {
        return (set >> k & 1) != 0;
    }

    /** The bytes that were fed, and a reader over them that remembers the first fault alone. */
    private static final class Text {
        final int[] bytes = new int[TOWN_BYTES];
        int size = 0;
        int wordAt = 0;
        int numberAt = 0;
        int faultNumber = 0;
        int faultAt = NONE;
        private int wordEnd = 0;
        private int at = 0;

        void add(int n, long packed) {
            for (int i = n - 1; i >= 0 && size < TOWN_BYTES; i--) {
                bytes[size] = (int) (packed >>> (8 * i) & 255);
                size++;
            }
        }

        void startReading() {
            at = 0;
            faultNumber = 0;
            faultAt = NONE;
        }

        boolean isFaulty() {
            return faultNumber != 0;
        }

        void blame(int number, int byteAt) {
            if (isFaulty()) return;
            faultNumber = number;
            faultAt = byteAt;
        }

        boolean hasMore() {
            skipBlanks();
            return at < size;
        }

        private void skipBlanks() {
            while (at < size && bytes[at] == ' ') at++;
        }

        private boolean isBetween(int low, int high) {
            return at < size && bytes[at] >= low && bytes[at] <= high;
        }

        /** Reads an empty word where no letter stands, which is none of the words that are known. */
        void readWord() {
            skipBlanks();
            wordAt = at;
            while (isBetween('a', 'z')) at++;
            wordEnd = at;
        }

        boolean isWord(String known) {
            if (wordEnd - wordAt != known.length()) return false;
            for (int i = 0; i < known.length(); i++) {
                if (bytes[wordAt + i] != known.charAt(i)) return false;
            }
            return true;
        }

        int readNumber(int least, int greatest) {
            skipBlanks();
            numberAt = at;
            int value = 0;
            while (isBetween('0', '9')) {
                // Beyond three figures the value is not used: it must only not run over.
                if (at - numberAt < 3) value = value * 10 + bytes[at] - '0';
                at++;
            }
            int figures = at - numberAt;
            if (figures == 0) blame(CANNOT_STAND, numberAt);
            else if (figures > 3 || value < least || value > greatest) blame(BAD_NUMBER, numberAt);
            return value;
        }

        void readEnd() {
            skipBlanks();
            if (isBetween(';', ';')) at++;
            else blame(CANNOT_STAND, at);
        }
    }

    /** Houses, sleepers, noise, matters as they were told, and what follows of noise. */
    private static final class Town {
        private final int[] counts = new int[KINDS];
        private final int[][] numbers = new int[KINDS][MOST_NOISES * PARTS];
        private final int[] loudness = new int[STREETS * DAYS];
        private final int[] calm = new int[DAYS * MOST_SLEEPERS];
        private final int[] alike = new int[DAYS];

        int count(int kind) {
            return counts[kind];
        }

        boolean has(int kind, int i) {
            return i >= 0 && i < counts[kind];
        }

        int part(int kind, int i, int part) {
            return has(kind, i) ? numbers[kind][i * PARTS + part] : 0;
        }

        void readFrom(Text text) {
            Arrays.fill(counts, 0);
            text.startReading();
            for (int i = 0; i < TOWN_BYTES && !text.isFaulty() && text.hasMore(); i++) readClause(text);
            if (text.isFaulty()) return;
            sumNoise();
            findCalm();
            countAlike();
        }

        private void readClause(Text text) {
            text.readWord();
            int kind = kindOf(text);
            if (kind == NONE) {
                text.blame(CANNOT_STAND, text.wordAt);
            } else if (counts[kind] >= MOST[kind]) {
                text.blame(TOO_MANY, text.wordAt);
            } else {
                readNumbers(text, kind);
                text.readEnd();
                counts[kind]++;
            }
        }

        private static int kindOf(Text text) {
            if (text.isWord("house")) return HOUSE;
            if (text.isWord("sleeper")) return SLEEPER;
            if (text.isWord("noise")) return NOISE;
            return text.isWord("matter") ? MATTER : NONE;
        }

        private void readNumbers(Text text, int kind) {
            int ahead = 0;
            for (int p = 0; p < PARTS_OF[kind]; p++) {
                int bounds = kind * PARTS + p;
                int value = text.readNumber(LEAST[bounds], GREATEST[bounds]);
                if (p == RISING_PART[kind] && value < ahead) text.blame(BELOW, text.numberAt);
                numbers[kind][counts[kind] * PARTS + p] = value;
                ahead = value;
            }
        }

        private void sumNoise() {
            Arrays.fill(loudness, 0);
            for (int i = 0; i < counts[NOISE]; i++) {
                int row = part(NOISE, i, NOISE_STREET) * DAYS;
                int to = part(NOISE, i, NOISE_TO);
                for (int day = part(NOISE, i, NOISE_FROM); day <= to; day++) {
                    loudness[row + day] += part(NOISE, i, NOISE_MORE);
                }
            }
        }

        private void findCalm() {
            for (int day = 0; day < DAYS; day++) {
                for (int s = 0; s < counts[SLEEPER]; s++) {
                    int set = 0;
                    for (int h = 0; h < counts[HOUSE]; h++) {
                        if (!isWoken(s, h, day)) set |= 1 << h;
                    }
                    calm[day * MOST_SLEEPERS + s] = set;
                }
            }
        }

        private void countAlike() {
            for (int day = 0; day < DAYS; day++) {
                alike[day] = day > 0 && isLikeTheDayAhead(day) ? alike[day - 1] + 1 : 1;
            }
        }

        private boolean isLikeTheDayAhead(int day) {
            int row = day * MOST_SLEEPERS;
            for (int s = 0; s < counts[SLEEPER]; s++) {
                if (calm[row + s] != calm[row - MOST_SLEEPERS + s]) return false;
            }
            return true;
        }

        int noiseOf(int street, int day) {
            boolean isTold = street >= 0 && street < STREETS && day >= 0 && day < DAYS;
            return isTold ? loudness[street * DAYS + day] : 0;
        }

        boolean isWoken(int s, int h, int day) {
            return noiseOf(part(HOUSE, h, STREET), day) > part(SLEEPER, s, LIGHT);
        }

        /** The SET of houses in which a sleeper is not woken, on a day for which noise can be told. */
        int calmHouses(int s, int day) {
            boolean isTold = has(SLEEPER, s) && day >= 0 && day < DAYS;
            return isTold ? calm[day * MOST_SLEEPERS + s] : 0;
        }

        /** The soonest day up to which the longest row of days looks as it does up to this one. */
        int soonestLike(int day) {
            return alike[day] > MOST_NIGHTS ? day - alike[day] + MOST_NIGHTS : day;
        }

        int bedsOf(int houses) {
            int sum = 0;
            for (int h = 0; h < counts[HOUSE]; h++) {
                if (isIn(houses, h)) sum += part(HOUSE, h, BEDS);
            }
            return sum;
        }

        int roomiestOf(int houses) {
            int best = NONE;
            for (int h = 0; h < counts[HOUSE]; h++) {
                if (isIn(houses, h) && part(HOUSE, h, BEDS) > part(HOUSE, best, BEDS)) best = h;
            }
            return best;
        }
    }

    private static final class Law {
        int nights = MOST_NIGHTS;
        int yes = MOST_NIGHTS / 2 + 1;
        boolean again = true;
        int clauses = 0;
        private int toldClauses = 0;

        void readFrom(Text text) {
            nights = MOST_NIGHTS;
            yes = NONE;
            again = true;
            clauses = 0;
            toldClauses = 0;
            text.startReading();
            for (int i = 0; i < LAW_BYTES && !text.isFaulty() && text.hasMore(); i++) readClause(text);
            if (yes == NONE) yes = nights / 2 + 1;
        }

        private void readClause(Text text) {
            text.readWord();
            int clause = clauseOf(text);
            int told = clause == ON_LAW ? AGAIN_LAW : clause;
            if (clause == NONE) {
                text.blame(CANNOT_STAND, text.wordAt);
            } else if (isIn(toldClauses, told)) {
                text.blame(TOO_MANY, text.wordAt);
            } else {
                toldClauses |= 1 << told;
                readRest(text, clause);
                text.readEnd();
                clauses++;
            }
        }

        private static int clauseOf(Text text) {
            if (text.isWord("nights")) return NIGHTS_LAW;
            if (text.isWord("yes")) return YES_LAW;
            if (text.isWord("again")) return AGAIN_LAW;
            return text.isWord("on") ? ON_LAW : NONE;
        }

        private void readRest(Text text, int clause) {
            if (clause == NIGHTS_LAW) nights = text.readNumber(1, MOST_NIGHTS);
            else if (clause == YES_LAW) yes = text.readNumber(0, MOST_NIGHTS);
            else again = clause == AGAIN_LAW;
        }
    }

    /** What changes from night to night, matter by matter: who slept, where, how it ended, who is laid. */
    private static final class Course {
        final int[] sleepers = new int[MOST_MATTERS];
        final int[] houses = new int[MOST_MATTERS];
        final int[] yes = new int[MOST_MATTERS];
        final int[] outcome = new int[MOST_MATTERS];
        final int[] decidedOn = new int[MOST_MATTERS];
        final int[] laidSleeper = new int[MOST_MATTERS];
        final int[] laidHouse = new int[MOST_MATTERS];
        int wages = 0;
        int day = 0;
        int drawSeed = 0;

        Course() {
            startAgain();
        }

        /** All but the seed, which goes on. */
        void startAgain() {
            Arrays.fill(sleepers, 0);
            Arrays.fill(houses, 0);
            Arrays.fill(yes, 0);
            Arrays.fill(outcome, OPEN);
            Arrays.fill(decidedOn, NONE);
            emptyBeds();
            wages = 0;
            day = 0;
        }

        private void emptyBeds() {
            Arrays.fill(laidSleeper, NONE);
            Arrays.fill(laidHouse, NONE);
        }

        void copyFrom(Course other) {
            System.arraycopy(other.sleepers, 0, sleepers, 0, MOST_MATTERS);
            System.arraycopy(other.houses, 0, houses, 0, MOST_MATTERS);
            System.arraycopy(other.yes, 0, yes, 0, MOST_MATTERS);
            System.arraycopy(other.outcome, 0, outcome, 0, MOST_MATTERS);
            System.arraycopy(other.decidedOn, 0, decidedOn, 0, MOST_MATTERS);
            System.arraycopy(other.laidSleeper, 0, laidSleeper, 0, MOST_MATTERS);
            System.arraycopy(other.laidHouse, 0, laidHouse, 0, MOST_MATTERS);
            wages = other.wages;
            day = other.day;
            drawSeed = other.drawSeed;
        }

        int matterOf(int s) {
            for (int m = 0; m < MOST_MATTERS; m++) {
                if (laidSleeper[m] == s) return m;
            }
            return NONE;
        }

        int bedsFree(Town town, int h) {
            int free = town.part(HOUSE, h, BEDS);
            for (int m = 0; m < MOST_MATTERS; m++) {
                if (laidHouse[m] == h) free--;
            }
            return free;
        }

        int laidTonight() {
            int count = 0;
            for (int m = 0; m < MOST_MATTERS; m++) {
                if (laidSleeper[m] != NONE) count++;
            }
            return count;
        }

        int decidedMatters() {
            int count = 0;
            for (int m = 0; m < MOST_MATTERS; m++) {
                if (outcome[m] != OPEN) count++;
            }
            return count;
        }

        boolean isMatterFree(Town town, int m) {
            return outcome[m] == OPEN && laidSleeper[m] == NONE && day >= town.part(MATTER, m, FROM);
        }

        boolean isSleeperFree(int m, int s) {
            return !isIn(sleepers[m], s) && matterOf(s) == NONE;
        }

        boolean isHouseFree(Town town, int m, int h) {
            return !isIn(houses[m], h) && bedsFree(town, h) > 0;
        }

        void layDown(int m, int s, int h) {
            laidSleeper[m] = s;
            laidHouse[m] = h;
        }

        void layByThemselves(Town town) {
            for (int m = 0; m < town.count(MATTER); m++) {
                if (isMatterFree(town, m)) layFirst(town, m);
            }
        }

        private void layFirst(Town town, int m) {
            for (int s = 0; s < town.count(SLEEPER); s++) {
                int h = isSleeperFree(m, s) ? firstCalmHouse(town, m, s) : NONE;
                if (h != NONE) {
                    layDown(m, s, h);
                    return;
                }
            }
        }

        private int firstCalmHouse(Town town, int m, int s) {
            for (int h = 0; h < town.count(HOUSE); h++) {
                if (!town.isWoken(s, h, day) && isHouseFree(town, m, h)) return h;
            }
            return NONE;
        }

        /** A night goes by: the SET of matters that it decides. */
        int pass(Town town, Law law) {
            int decided = 0;
            for (int m = 0; m < town.count(MATTER); m++) {
                int s = laidSleeper[m];
                if (s != NONE) wages += town.part(SLEEPER, s, WAGE);
                if (s != NONE && !town.isWoken(s, laidHouse[m], day)) {
                    countNight(m, town.part(SLEEPER, s, DREAM));
                    if (decide(m, law)) decided |= 1 << m;
                } else if (law.again) {
                    loseNights(m);
                }
            }
            emptyBeds();
            day++;
            return decided;
        }

        private void loseNights(int m) {
            sleepers[m] = 0;
            houses[m] = 0;
            yes[m] = 0;
        }

        private void countNight(int m, int yesOfHundred) {
            sleepers[m] |= 1 << laidSleeper[m];
            houses[m] |= 1 << laidHouse[m];
            if (drawOfHundred() < yesOfHundred) yes[m]++;
        }

        private boolean decide(int m, Law law) {
            if (Integer.bitCount(sleepers[m]) < law.nights) return false;
            outcome[m] = yes[m] >= law.yes ? YES : NO;
            decidedOn[m] = day;
            return true;
        }

        private int drawOfHundred() {
            // What runs over in an int is a multiple of 2 to the 32, so what is left over by 2 to the 31 stays right.
            drawSeed = (drawSeed * 1103515245 + 12345) & 0x7fffffff;
            return drawSeed / 65536 % 100;
        }

        int score(Town town) {
            int sum = -wages;
            for (int m = 0; m < town.count(MATTER); m++) {
                int from = town.part(MATTER, m, FROM);
                int to = outcome[m] == OPEN ? Math.max(day, from) : decidedOn[m];
                sum -= town.part(MATTER, m, COST) * (to - from);
                boolean isWon = outcome[m] == YES && to <= town.part(MATTER, m, UNTIL);
                if (isWon) sum += town.part(MATTER, m, WORTH);
            }
            return sum;
        }
    }

    /** Nights that were told. */
    private static final class Book {
        int size = 0;
        private final int[] days = new int[BOOK_NIGHTS];
        private final int[] sleepers = new int[BOOK_NIGHTS];
        private final int[] houses = new int[BOOK_NIGHTS];

        void add(int day, int s, int h) {
            if (size >= BOOK_NIGHTS) return;
            days[size] = day;
            sleepers[size] = s;
            houses[size] = h;
            size++;
        }

        int firstWrong(Town town, int from) {
            int usedSleepers = 0;
            int usedHouses = 0;
            for (int i = 0; i < size; i++) {
                boolean isInTime = i == 0 ? days[0] >= from : days[i] == days[i - 1] + 1;
                boolean isNew = !isIn(usedSleepers, sleepers[i]) && !isIn(usedHouses, houses[i]);
                if (!isInTime || !isNew || town.isWoken(sleepers[i], houses[i], days[i])) return i;
                usedSleepers |= 1 << sleepers[i];
                usedHouses |= 1 << houses[i];
            }
            return NONE;
        }
    }

    /** Rows that matters ahead have taken, all of the same number of nights. */
    private static final class Taken {
        private int count = 0;
        private int nights = 0;
        private final int[] starts = new int[MOST_MATTERS];
        private final int[] sleepers = new int[MOST_MATTERS * MOST_NIGHTS];
        private final int[] houses = new int[MOST_MATTERS * MOST_NIGHTS];

        void clearFor(int nightsOfEach) {
            count = 0;
            nights = nightsOfEach;
        }

        void add(int end, int[] rowSleepers, int[] rowHouses) {
            if (count >= MOST_MATTERS) return;
            starts[count] = end - nights + 1;
            System.arraycopy(rowSleepers, 0, sleepers, count * MOST_NIGHTS, MOST_NIGHTS);
            System.arraycopy(rowHouses, 0, houses, count * MOST_NIGHTS, MOST_NIGHTS);
            count++;
        }

        /** Where row r has what it does on a day. */
        private int placeOf(int r, int day) {
            int k = day - starts[r];
            return k >= 0 && k < nights ? r * MOST_NIGHTS + k : NONE;
        }

        int busySleepers(int day) {
            int set = 0;
            for (int r = 0; r < count; r++) {
                int at = placeOf(r, day);
                if (at != NONE) set |= 1 << sleepers[at];
            }
            return set;
        }

        int fullHouses(int day, int[] beds) {
            int set = 0;
            for (int h = 0; count > 0 && h < MOST_HOUSES; h++) {
                int free = beds[h];
                for (int r = 0; r < count; r++) {
                    int at = placeOf(r, day);
                    if (at != NONE && houses[at] == h) free--;
                }
                if (free <= 0) set |= 1 << h;
            }
            return set;
        }
    }

    /**
     * Rows of nights. All is worked out from the last day backwards, SET of sleepers by SET of sleepers: so one pass
     * tells, for each of these, whether they can take the last days up to an end, and the first row is read from it.
     */
    private static final class Rows {
        final int[] rowSleepers = new int[MOST_NIGHTS];
        final int[] rowHouses = new int[MOST_NIGHTS];
        Town town;
        final Taken nothing = new Taken();
        private final int[] beds = new int[MOST_HOUSES];
        // By end: how long a row can be (NONE: not looked at yet), and bit by bit which SETs of sleepers have one.
        private final int[] longest = new int[DAYS];
        private final long[] able = new long[DAYS * 2];
        // By SET of sleepers: bit by bit with which SETs of houses they take the last days; high: with the last house.
        private final long[] low = new long[SETS];
        private final long[] high = new long[SETS];
        // By days to the end and by sleeper: the SET of houses that may be slept in.
        private final int[] open = new int[MOST_NIGHTS * MOST_SLEEPERS];

        Rows(Town first) {
            town = first;
            moveTo(first);
        }

        void moveTo(Town next) {
            town = next;
            Arrays.fill(longest, NONE);
            Arrays.fill(able, 0);
            for (int h = 0; h < MOST_HOUSES; h++) beds[h] = next.part(HOUSE, h, BEDS);
        }

        /** How many nights the longest row up to this end has, with all beds and sleepers free. */
        int longestUpTo(int end) {
            if (end < 0 || end >= DAYS) return 0;
            int day = town.soonestLike(end);
            if (longest[day] != NONE) return longest[day];
            prepare(day, Math.min(MOST_NIGHTS, day + 1), nothing);
            int most = 0;
            for (int set = 0; set < SETS; set++) {
                if ((low[set] | high[set]) == 0) continue;
                most = Math.max(most, Integer.bitCount(set));
                able[day * 2 + set / SETS_IN_A_LONG] |= 1L << set % SETS_IN_A_LONG;
            }
            longest[day] = most;
            return most;
        }

        /** The soonest end of a row with all of a SET of sleepers and no others; NONE. */
        int soonestEndOf(int set, int first, int until) {
            int nights = Integer.bitCount(set);
            for (int end = first + nights - 1; end <= until; end++) {
                if (longestUpTo(end) < nights) continue;
                long sets = able[town.soonestLike(end) * 2 + set / SETS_IN_A_LONG];
                if ((sets >>> set % SETS_IN_A_LONG & 1) != 0) return end;
            }
            return NONE;
        }

        int soonestEnd(int first, int nights, int until) {
            for (int end = first + nights - 1; end <= until; end++) {
                if (longestUpTo(end) >= nights) return end;
            }
            return NONE;
        }

        /** Loud days, each at the end of the first row that those ahead of it leave: day i, or for NONE how many. */
        int loudDay(int first, int nights, int until, int i) {
            int count = 0;
            int latest = first - 1;
            for (int end = first + nights - 1; end <= until; end++) {
                if (end - nights < latest || longestUpTo(end) < nights) continue;
                if (count == i) return end;
                latest = end;
                count++;
            }
            return i == NONE && count > 0 ? count : NONE;
        }

        /** Whether there is a row up to an end with what is left; if so it can be read. */
        boolean prepare(int end, int nights, Taken taken) {
            for (int back = 0; back < nights; back++) {
                int busy = taken.busySleepers(end - back);
                int full = taken.fullHouses(end - back, beds);
                for (int s = 0; s < MOST_SLEEPERS; s++) {
                    int houses = isIn(busy, s) ? 0 : town.calmHouses(s, end - back) & ~full;
                    open[back * MOST_SLEEPERS + s] = houses;
                }
            }
            return reach(nights);
        }

        private boolean reach(int nights) {
            Arrays.fill(low, 0);
            Arrays.fill(high, 0);
            low[0] = 1;
            boolean isReached = false;
            for (int set = 0; set < SETS; set++) {
                int slept = Integer.bitCount(set);
                if (slept > nights || (low[set] | high[set]) == 0) continue;
                if (slept == nights) isReached = true;
                else addSleepers(set, slept);
            }
            return isReached;
        }

        private void addSleepers(int set, int slept) {
            for (int s = 0; s < MOST_SLEEPERS; s++) {
                int more = set | 1 << s;
                int houses = more == set ? 0 : open[slept * MOST_SLEEPERS + s];
                for (int h = 0; h < LAST_HOUSE; h++) {
                    if ((houses >> h & 1) == 0) continue;
                    // Where house h is lacked, the SET with it stands 2 to the h bits further up.
                    low[more] |= (low[set] & LACKS[h]) << (1 << h);
                    high[more] |= (high[set] & LACKS[h]) << (1 << h);
                }
                if (houses >> LAST_HOUSE != 0) high[more] |= low[set];
            }
        }

        /** Reads the first row of what was prepared: night by night the least pair with which it can still be ended. */
        void readRow(int nights) {
            int usedSleepers = 0;
            int usedHouses = 0;
            for (int k = 0; k < nights; k++) {
                int pair = leastPair(nights - 1 - k, usedSleepers, usedHouses);
                rowSleepers[k] = pair == NONE ? 0 : pair / MOST_HOUSES;
                rowHouses[k] = pair == NONE ? 0 : pair % MOST_HOUSES;
                usedSleepers |= 1 << rowSleepers[k];
                usedHouses |= 1 << rowHouses[k];
            }
        }

        private int leastPair(int left, int usedSleepers, int usedHouses) {
            for (int s = 0; s < MOST_SLEEPERS; s++) {
                int houses = isIn(usedSleepers, s) ? 0 : open[left * MOST_SLEEPERS + s] & ~usedHouses;
                for (int h = 0; h < MOST_HOUSES; h++) {
                    if (!isIn(houses, h)) continue;
                    if (canEnd(left, usedSleepers | 1 << s, usedHouses | 1 << h)) return s * MOST_HOUSES + h;
                }
            }
            return NONE;
        }

        private boolean canEnd(int left, int usedSleepers, int usedHouses) {
            long lowLeft = -1L;
            for (int h = 0; h < LAST_HOUSE; h++) {
                if (isIn(usedHouses, h)) lowLeft &= LACKS[h];
            }
            long highLeft = isIn(usedHouses, LAST_HOUSE) ? 0 : lowLeft;
            for (int set = 0; set < SETS; set++) {
                if ((set & usedSleepers) != 0 || Integer.bitCount(set) != left) continue;
                if ((low[set] & lowLeft | high[set] & highLeft) != 0) return true;
            }
            return false;
        }
    }

    /** The best order of all matters. */
    private static final class Plan {
        boolean isKnown = false;
        int gain = 0;
        final int[] order = new int[MOST_MATTERS];
        final int[] ends = new int[MOST_MATTERS];
        private final int[] triedEnds = new int[MOST_MATTERS];
        private final Taken taken = new Taken();
        private final Rows rows;
        private int day = 0;
        private int nights = 0;

        Plan(Rows allRows) {
            rows = allRows;
        }

        /** The search is dear: it is done again only when the day is another one, or what is known was made void. */
        void update(int today, int nightsOfEach) {
            if (isKnown && day == today) return;
            day = today;
            nights = nightsOfEach;
            int matters = rows.town.count(MATTER);
            for (int i = 0; i < ORDERS_COUNT[matters]; i++) {
                int at = ORDERS_AT[matters] + i * matters;
                int sum = gainOf(at, matters);
                if (i > 0 && sum <= gain) continue;
                gain = sum;
                System.arraycopy(ORDERS, at, order, 0, matters);
                System.arraycopy(triedEnds, 0, ends, 0, matters);
            }
            isKnown = true;
        }

        private int gainOf(int at, int matters) {
            Town town = rows.town;
            taken.clearFor(nights);
            int sum = 0;
            for (int k = 0; k < matters; k++) {
                int m = ORDERS[at + k];
                int end = takeSoonest(m);
                triedEnds[m] = end;
                int waited = end - town.part(MATTER, m, FROM);
                if (end != NONE) sum += town.part(MATTER, m, WORTH) - town.part(MATTER, m, COST) * waited;
            }
            return sum;
        }

        private int takeSoonest(int m) {
            int first = Math.max(day, rows.town.part(MATTER, m, FROM));
            int until = rows.town.part(MATTER, m, UNTIL);
            for (int end = first + nights - 1; end <= until; end++) {
                if (rows.longestUpTo(end) < nights || !rows.prepare(end, nights, taken)) continue;
                rows.readRow(nights);
                taken.add(end, rows.rowSleepers, rows.rowHouses);
                return end;
            }
            return NONE;
        }
    }

    /** The cheapest or the likeliest row: its sum or odds, its end, its SET of sleepers; all NONE if there is none. */
    private static final class Choice {
        int value = NONE;
        int end = NONE;
        int set = NONE;
        private final int[] odds = new int[MOST_SLEEPERS + 1];
        private final Rows rows;

        Choice(Rows allRows) {
            rows = allRows;
        }

        void make(Law law, int first, int until, boolean byOdds) {
            value = NONE;
            end = NONE;
            set = NONE;
            for (int next = 0; next < SETS; next++) {
                int nextEnd = Integer.bitCount(next) == law.nights ? rows.soonestEndOf(next, first, until) : NONE;
                if (nextEnd == NONE) continue;
                int nextValue = byOdds ? oddsOf(next, law.yes) : wagesOf(next);
                boolean isBetter = byOdds ? nextValue > value : nextValue < value;
                boolean isSooner = nextValue == value && nextEnd < end;
                if (end != NONE && !isBetter && !isSooner) continue;
                value = nextValue;
                end = nextEnd;
                set = next;
            }
        }

        private int wagesOf(int sleepers) {
            int sum = 0;
            for (int s = 0; s < MOST_SLEEPERS; s++) {
                if (isIn(sleepers, s)) sum += rows.town.part(SLEEPER, s, WAGE);
            }
            return sum;
        }

        private int oddsOf(int sleepers, int needed) {
            Arrays.fill(odds, 0);
            odds[0] = MILLION;
            for (int s = 0; s < MOST_SLEEPERS; s++) {
                if (isIn(sleepers, s)) dream(rows.town.part(SLEEPER, s, DREAM));
            }
            int sum = 0;
            for (int j = needed; j <= MOST_SLEEPERS; j++) sum += odds[j];
            return sum;
        }

        /** From the most dreams downwards, so that what moves up is not moved again. */
        private void dream(int yesOfHundred) {
            for (int j = MOST_SLEEPERS - 1; j >= 0; j--) {
                int up = odds[j] * yesOfHundred / 100;
                odds[j + 1] += up;
                odds[j] -= up;
            }
        }
    }
}
