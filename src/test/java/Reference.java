import java.util.ArrayList;
import java.util.Arrays;
import java.util.HashMap;
import java.util.HashSet;
import java.util.List;
import java.util.Map;
import java.util.Set;

/** The document once more, as plainly and as slowly as it reads; RandomRunsTest holds the class against it. */
final class Reference {
    static final int NONE = -1, UNKNOWN = -1000000001, OUTSIDE = -1000000002, NOT = -1000000003, FULL = -1000000004;

    static final class Matter {
        int from, until, worth, cost;
        List<int[]> nights = new ArrayList<>(); // sleeper, house, 1 if it dreamt yes
        int how = 0, decided = NONE, laidSleeper = NONE, laidHouse = NONE;

        Matter copy() {
            Matter c = new Matter();
            c.from = from; c.until = until; c.worth = worth; c.cost = cost;
            for (int[] n : nights) c.nights.add(n.clone());
            c.how = how; c.decided = decided; c.laidSleeper = laidSleeper; c.laidHouse = laidHouse;
            return c;
        }

        int set(int which) {
            int set = 0;
            for (int[] n : nights) set |= 1 << n[which];
            return set;
        }

        int dreams() {
            int sum = 0;
            for (int[] n : nights) sum += n[2];
            return sum;
        }
    }

    static final class Image { List<Matter> matters = new ArrayList<>(); int wages, day; long seed; }

    StringBuilder text = new StringBuilder();
    List<int[]> houses = new ArrayList<>(), sleepers = new ArrayList<>(), noises = new ArrayList<>(), book = new ArrayList<>();
    List<Matter> matters = new ArrayList<>();
    int k = 7, yes = 4, again = 1, day = 0, wages = 0, fault = NONE;
    long seed = 0;
    Image[] images = new Image[2];
    int[][] loud = new int[4][100];
    Map<List<Integer>, int[]> rowsKnown = new HashMap<>(); // rows with nothing in the way, which are asked for over and over

    // ---- texts

    static final class Fault extends Exception {
        private static final long serialVersionUID = 1L;
        final int number, at;
        Fault(int number, int at) { this.number = number; this.at = at; }
    }

    record Token(char kind, String text, int at) { }

    static List<Token> tokens(String text) {
        List<Token> list = new ArrayList<>();
        int i = 0;
        while (i < text.length()) {
            int j = i + 1;
            char c = text.charAt(i);
            if (c >= 'a' && c <= 'z') {
                while (j < text.length() && text.charAt(j) >= 'a' && text.charAt(j) <= 'z') j++;
                list.add(new Token('w', text.substring(i, j), i));
            } else if (c >= '0' && c <= '9') {
                while (j < text.length() && text.charAt(j) >= '0' && text.charAt(j) <= '9') j++;
                list.add(new Token('n', text.substring(i, j), i));
            } else if (c != ' ') {
                list.add(new Token(c == ';' ? ';' : '?', text.substring(i, j), i));
            }
            i = j;
        }
        list.add(new Token('e', "", text.length()));
        return list;
    }

    /** Clauses as a word with its numbers; the shapes tell "word least-greatest least-greatest ..", '<' that it must not be below the one ahead. */
    static List<String> clauses(String text, String[] shapes, int[] most, int[] group) throws Fault {
        List<String> found = new ArrayList<>();
        int[] count = new int[shapes.length];
        List<Token> tokens = tokens(text);
        int i = 0;
        while (tokens.get(i).kind() != 'e') {
            Token word = tokens.get(i++);
            int shape = NONE;
            for (int s = 0; s < shapes.length; s++) if (word.kind() == 'w' && shapes[s].split(" ")[0].equals(word.text())) shape = s;
            if (shape == NONE) throw new Fault(1, word.at());
            if (++count[group[shape]] > most[shape]) throw new Fault(3, word.at());
            StringBuilder clause = new StringBuilder(word.text());
            String[] parts = shapes[shape].split(" ");
            int ahead = 0;
            for (int p = 1; p < parts.length; p++) {
                Token number = tokens.get(i++);
                if (number.kind() != 'n') throw new Fault(1, number.at());
                String[] bounds = parts[p].replace("<", "").split("-");
                int value = number.text().length() > 3 ? 9999 : Integer.parseInt(number.text());
                if (value < Integer.parseInt(bounds[0]) || value > Integer.parseInt(bounds[1])) throw new Fault(2, number.at());
                if (parts[p].startsWith("<") && value < ahead) throw new Fault(4, number.at());
                ahead = value;
                clause.append(' ').append(value);
            }
            Token end = tokens.get(i++);
            if (end.kind() != ';') throw new Fault(1, end.at());
            found.add(clause.toString());
        }
        return found;
    }

    int feed(int n, long bytes) {
        if (n < 1 || n > 8) return OUTSIDE;
        if (text.length() + n > 500) return FULL;
        for (int i = 8 - n; i < 8; i++) text.append((char) (bytes >>> (56 - 8 * i) & 255));
        return text.length();
    }

    int town() {
        String told = text.toString();
        text.setLength(0);
        List<String> clauses;
        try {
            clauses = clauses(told, new String[] {"house 0-3 1-4", "sleeper 0-9 0-100 0-99", "noise 0-3 0-99 <0-99 1-9",
                "matter 0-99 <0-99 0-999 0-99"}, new int[] {7, 7, 20, 3}, new int[] {0, 1, 2, 3});
        } catch (Fault f) {
            fault = f.at;
            return -10 - f.number;
        }
        fault = NONE;
        houses.clear(); sleepers.clear(); noises.clear(); matters.clear(); book.clear();
        for (String clause : clauses) {
            String[] parts = clause.split(" ");
            int[] numbers = new int[parts.length - 1];
            for (int i = 0; i < numbers.length; i++) numbers[i] = Integer.parseInt(parts[i + 1]);
            switch (parts[0]) {
                case "house" -> houses.add(numbers);
                case "sleeper" -> sleepers.add(numbers);
                case "noise" -> noises.add(numbers);
                default -> {
                    Matter m = new Matter();
                    m.from = numbers[0]; m.until = numbers[1]; m.worth = numbers[2]; m.cost = numbers[3];
                    matters.add(m);
                }
            }
        }
        images = new Image[2];
        sumNoise();
        rowsKnown.clear();
        begin();
        return matters.size();
    }

    int laws() {
        if (text.length() > 200) return NOT;
        String told = text.toString();
        text.setLength(0);
        List<String> clauses;
        try {
            clauses = clauses(told, new String[] {"nights 1-7", "yes 0-7", "again", "on"}, new int[] {1, 1, 1, 1}, new int[] {0, 1, 2, 2});
        } catch (Fault f) {
            fault = f.at;
            return -10 - f.number;
        }
        fault = NONE;
        k = 7; again = 1;
        int told4 = NONE;
        for (String clause : clauses) {
            String[] parts = clause.split(" ");
            if (parts[0].equals("nights")) k = Integer.parseInt(parts[1]);
            if (parts[0].equals("yes")) told4 = Integer.parseInt(parts[1]);
            if (parts[0].equals("on")) again = 0;
        }
        yes = told4 == NONE ? k / 2 + 1 : told4;
        return clauses.size();
    }

    int fault() { return fault; }

    int told(int what) {
        int[] all = {houses.size(), sleepers.size(), matters.size(), k, yes, again, day, wages, text.length(), book.size(), score()};
        return what < 0 || what >= all.length ? OUTSIDE : all[what];
    }

    int score() {
        int sum = -wages;
        for (Matter m : matters) {
            if (m.how == 1 && m.decided <= m.until) sum += m.worth;
            if (m.how != 0) sum -= m.cost * (m.decided - m.from);
            else if (day > m.from) sum -= m.cost * (day - m.from);
        }
        return sum;
    }

    int free(int h) {
        int beds = houses.get(h)[1];
        for (Matter m : matters) if (m.laidHouse == h) beds--;
        return beds;
    }

    int house(int h, int what) {
        if (h < 0 || h >= houses.size()) return UNKNOWN;
        if (what < 0 || what > 2) return OUTSIDE;
        return what < 2 ? houses.get(h)[what] : free(h);
    }

    int laidFor(int s) {
        for (int m = 0; m < matters.size(); m++) if (matters.get(m).laidSleeper == s) return m;
        return NONE;
    }

    int sleeper(int s, int what) {
        if (s < 0 || s >= sleepers.size()) return UNKNOWN;
        if (what < 0 || what > 3) return OUTSIDE;
        return what < 3 ? sleepers.get(s)[what] : laidFor(s);
    }

    int matter(int m, int what) {
        if (m < 0 || m >= matters.size()) return UNKNOWN;
        if (what < 0 || what > 9) return OUTSIDE;
        Matter x = matters.get(m);
        return new int[] {x.from, x.until, x.worth, x.cost, x.nights.size(), x.dreams(), x.how, x.decided, x.set(0), x.set(1)}[what];
    }

    int loudness(int street, int onDay) { return onDay > 99 ? 0 : loud[street][onDay]; }

    void sumNoise() {
        loud = new int[4][100];
        for (int[] n : noises) for (int d = n[1]; d <= n[2]; d++) loud[n[0]][d] += n[3];
    }

    int noise(int street, int onDay) {
        return street < 0 || street > 3 || onDay < 0 || onDay > 999 ? OUTSIDE : loudness(street, onDay);
    }

    boolean woken(int s, int h, int onDay) { return loudness(houses.get(h)[0], onDay) > sleepers.get(s)[0]; }

    // ---- nights

    boolean mayLay(int m, int s, int h) {
        Matter x = matters.get(m);
        if (x.laidSleeper != NONE || laidFor(s) != NONE || free(h) == 0 || x.how != 0 || day < x.from) return false;
        for (int[] n : x.nights) if (n[0] == s || n[1] == h) return false;
        return true;
    }

    int lay(int m, int s, int h) {
        if (m < 0 || m >= matters.size() || s < 0 || s >= sleepers.size() || h < 0 || h >= houses.size()) return UNKNOWN;
        if (!mayLay(m, s, h)) return NOT;
        matters.get(m).laidSleeper = s;
        matters.get(m).laidHouse = h;
        int count = 0;
        for (Matter x : matters) if (x.laidSleeper != NONE) count++;
        return count;
    }

    int rise(int m) {
        if (m < 0 || m >= matters.size()) return UNKNOWN;
        Matter x = matters.get(m);
        int s = x.laidSleeper;
        if (s == NONE) return NOT;
        x.laidSleeper = NONE;
        x.laidHouse = NONE;
        return s;
    }

    int night() {
        int decided = 0;
        for (int m = 0; m < matters.size(); m++) {
            Matter x = matters.get(m);
            if (x.laidSleeper == NONE) {
                if (again == 1) x.nights.clear();
                continue;
            }
            wages += sleepers.get(x.laidSleeper)[2];
            if (woken(x.laidSleeper, x.laidHouse, day)) {
                if (again == 1) x.nights.clear();
            } else {
                seed = (seed * 1103515245L + 12345L) % (1L << 31);
                int dream = seed / 65536 % 100 < sleepers.get(x.laidSleeper)[1] ? 1 : 0;
                x.nights.add(new int[] {x.laidSleeper, x.laidHouse, dream});
                if (x.nights.size() >= k) {
                    x.how = x.dreams() >= yes ? 1 : 2;
                    x.decided = day;
                    decided |= 1 << m;
                }
            }
            x.laidSleeper = NONE;
            x.laidHouse = NONE;
        }
        day++;
        return decided;
    }

    int run(int n) {
        if (n < 1 || n > 100) return OUTSIDE;
        for (int i = 0; i < n; i++) {
            for (int m = 0; m < matters.size(); m++) layItself(m);
            night();
        }
        int count = 0;
        for (Matter x : matters) if (x.how != 0) count++;
        return count;
    }

    void layItself(int m) {
        for (int s = 0; s < sleepers.size(); s++) {
            for (int h = 0; h < houses.size(); h++) {
                if (!woken(s, h, day) && mayLay(m, s, h)) {
                    lay(m, s, h);
                    return;
                }
            }
        }
    }

    int begin() {
        int was = day;
        day = 0;
        wages = 0;
        for (Matter x : matters) {
            x.nights.clear();
            x.how = 0;
            x.decided = x.laidSleeper = x.laidHouse = NONE;
        }
        return was;
    }

    // ---- rows

    /** What stands in the way of a row: days that are loud, sleepers and houses by days that others have. */
    final class Use {
        Set<Integer> loud = new HashSet<>();
        List<int[]> taken = new ArrayList<>(); // day, sleeper, house

        boolean open(int onDay, int s, int h) {
            if (loud.contains(onDay) || woken(s, h, onDay)) return false;
            int beds = houses.get(h)[1];
            for (int[] t : taken) {
                if (t[0] == onDay && t[1] == s) return false;
                if (t[0] == onDay && t[2] == h) beds--;
            }
            return beds > 0;
        }
    }

    int first(int m) { return Math.max(day, matters.get(m).from); }

    /** The first row from a day on with sleepers of a SET alone, as sleeper, house, sleeper, house ..; null. */
    int[] row(Use use, int start, int nights, int among) {
        boolean isFree = use.loud.isEmpty() && use.taken.isEmpty();
        List<Integer> asked = List.of(start, nights, among);
        if (isFree && rowsKnown.containsKey(asked)) return rowsKnown.get(asked);
        int[] found = rowAnew(use, start, nights, among);
        if (isFree) rowsKnown.put(asked, found);
        return found;
    }

    int[] rowAnew(Use use, int start, int nights, int among) {
        int[] row = new int[2 * nights];
        return start + nights - 1 <= 99 && seek(use, start, 0, row, among, 0, new HashSet<>()) ? row : null;
    }

    boolean seek(Use use, int start, int i, int[] row, int sleepersLeft, int housesUsed, Set<Integer> dead) {
        if (2 * i == row.length) return true;
        if (dead.contains(sleepersLeft * 128 + housesUsed)) return false;
        for (int s = 0; s < sleepers.size(); s++) {
            if ((sleepersLeft >> s & 1) == 0) continue;
            for (int h = 0; h < houses.size(); h++) {
                if ((housesUsed >> h & 1) != 0 || !use.open(start + i, s, h)) continue;
                row[2 * i] = s;
                row[2 * i + 1] = h;
                if (seek(use, start, i + 1, row, sleepersLeft & ~(1 << s), housesUsed | 1 << h, dead)) return true;
            }
        }
        dead.add(sleepersLeft * 128 + housesUsed);
        return false;
    }

    int soonestStart(Use use, int from, int nights, int until) {
        for (int start = from; start + nights - 1 <= until; start++) if (row(use, start, nights, 127) != null) return start;
        return NONE;
    }

    int soonest(int m, int i) {
        if (m < 0 || m >= matters.size()) return UNKNOWN;
        int start = soonestStart(new Use(), first(m), k, 99);
        if (start == NONE) return NONE;
        if (i == NONE) return start + k - 1;
        return i < 0 || i >= 2 * k ? NONE : row(new Use(), start, k, 127)[i];
    }

    int chosen(int m, int what, boolean cheap) {
        if (m < 0 || m >= matters.size()) return UNKNOWN;
        if (what < 0 || what > 2) return OUTSIDE;
        int[] best = null;
        for (int end = first(m) + k - 1; end <= matters.get(m).until; end++) {
            for (int set = 0; set < 1 << sleepers.size(); set++) {
                if (Integer.bitCount(set) != k || row(new Use(), end - k + 1, k, set) == null) continue;
                int value = cheap ? wagesOf(set) : oddsOf(set);
                int better = best == null ? 1 : cheap ? best[0] - value : value - best[0];
                if (better > 0) best = new int[] {value, end, set};
            }
        }
        return best == null ? NONE : best[what];
    }

    int wagesOf(int set) {
        int sum = 0;
        for (int s = 0; s < sleepers.size(); s++) if ((set >> s & 1) != 0) sum += sleepers.get(s)[2];
        return sum;
    }

    int oddsOf(int set) {
        long[] odds = {1000000};
        for (int s = 0; s < sleepers.size(); s++) {
            if ((set >> s & 1) == 0) continue;
            long[] next = new long[odds.length + 1];
            for (int j = 0; j < odds.length; j++) {
                long up = odds[j] * sleepers.get(s)[1] / 100;
                next[j + 1] += up;
                next[j] += odds[j] - up;
            }
            odds = next;
        }
        long sum = 0;
        for (int j = yes; j < odds.length; j++) sum += odds[j];
        return (int) sum;
    }

    int cheapest(int m, int what) { return chosen(m, what, true); }

    int likeliest(int m, int what) { return chosen(m, what, false); }

    static void orders(List<Integer> ahead, int n, List<List<Integer>> all) {
        if (ahead.size() == n) all.add(new ArrayList<>(ahead));
        for (int m = 0; m < n; m++) {
            if (ahead.contains(m)) continue;
            ahead.add(m);
            orders(ahead, n, all);
            ahead.remove(ahead.size() - 1);
        }
    }

    int together(int what) {
        int n = matters.size();
        boolean inside = what == 0 || what >= 1 && what <= n || what >= 11 && what <= 10 + n;
        if (!inside) return OUTSIDE;
        List<List<Integer>> all = new ArrayList<>();
        orders(new ArrayList<>(), n, all);
        int best = Integer.MIN_VALUE;
        List<Integer> bestOrder = null;
        int[] bestEnds = null;
        for (List<Integer> order : all) {
            Use use = new Use();
            int[] ends = new int[n];
            Arrays.fill(ends, NONE);
            int gain = 0;
            for (int m : order) {
                Matter x = matters.get(m);
                int start = soonestStart(use, first(m), k, x.until);
                if (start == NONE) continue;
                int[] row = row(use, start, k, 127);
                for (int i = 0; i < k; i++) use.taken.add(new int[] {start + i, row[2 * i], row[2 * i + 1]});
                ends[m] = start + k - 1;
                gain += x.worth - x.cost * (ends[m] - x.from);
            }
            if (gain > best) {
                best = gain;
                bestOrder = order;
                bestEnds = ends;
            }
        }
        return what == 0 ? best : what <= n ? bestOrder.get(what - 1) : bestEnds[what - 11];
    }

    int stopped(int m, int i) {
        if (m < 0 || m >= matters.size()) return UNKNOWN;
        Use use = new Use();
        List<Integer> loud = new ArrayList<>();
        int start = soonestStart(use, first(m), k, matters.get(m).until);
        while (start != NONE) {
            loud.add(start + k - 1);
            use.loud.add(start + k - 1);
            start = soonestStart(use, first(m), k, matters.get(m).until);
        }
        if (loud.isEmpty()) return NONE;
        if (i == NONE) return loud.size();
        return i < 0 || i >= loud.size() ? NONE : loud.get(i);
    }

    int tried(int m, int nights) {
        if (m < 0 || m >= matters.size()) return UNKNOWN;
        if (nights < 1 || nights > 7) return OUTSIDE;
        int start = soonestStart(new Use(), first(m), nights, 99);
        return start == NONE ? NONE : start + nights - 1;
    }

    int let(int s, int onDay, int what) {
        if (s < 0 || s >= sleepers.size()) return UNKNOWN;
        if (onDay < 0 || onDay > 99 || what < 0 || what > 1) return OUTSIDE;
        int beds = 0, best = NONE;
        for (int h = 0; h < houses.size(); h++) {
            if (woken(s, h, onDay)) continue;
            beds += houses.get(h)[1];
            if (best == NONE || houses.get(h)[1] > houses.get(best)[1]) best = h;
        }
        return what == 0 ? beds : best;
    }

    // ---- books, draws, images

    int write(int onDay, int s, int h) {
        if (s < 0 || s >= sleepers.size() || h < 0 || h >= houses.size()) return UNKNOWN;
        if (onDay < 0 || onDay > 999) return OUTSIDE;
        if (book.size() == 20) return FULL;
        book.add(new int[] {onDay, s, h});
        return book.size();
    }

    int tear() {
        int was = book.size();
        book.clear();
        return was;
    }

    int judge(int m) {
        if (m < 0 || m >= matters.size()) return UNKNOWN;
        for (int i = 0; i < book.size(); i++) {
            int[] n = book.get(i);
            if (i == 0 && n[0] < matters.get(m).from) return i;
            if (i > 0 && n[0] != book.get(i - 1)[0] + 1) return i;
            for (int j = 0; j < i; j++) if (book.get(j)[1] == n[1] || book.get(j)[2] == n[2]) return i;
            if (woken(n[1], n[2], n[0])) return i;
        }
        return NONE;
    }

    int seed(int v) {
        if (v < 0) return OUTSIDE;
        int was = (int) seed;
        seed = v;
        return was;
    }

    int keep(int i) {
        if (i < 0 || i > 1) return UNKNOWN;
        Image image = new Image();
        for (Matter x : matters) image.matters.add(x.copy());
        image.wages = wages;
        image.day = day;
        image.seed = seed;
        images[i] = image;
        return 1;
    }

    int goBack(int i) {
        if (i < 0 || i > 1) return UNKNOWN;
        if (images[i] == null) return NOT;
        matters.clear();
        for (Matter x : images[i].matters) matters.add(x.copy());
        wages = images[i].wages;
        day = images[i].day;
        seed = images[i].seed;
        return 1;
    }
}
