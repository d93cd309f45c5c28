import java.util.ArrayList;
import java.util.Collections;
import java.util.List;
import java.util.Random;
import java.util.regex.Matcher;
import java.util.regex.Pattern;

/**
 * Random runs of calls, with fixed seeds, against a second, slow reading of the document that tries
 * all orders and lines and reads rules by a pattern.
 */
public final class ModelTest {
    private static final int RUNS = 4000;
    private static final int CALLS = 512;

    public static void main(String[] args) {
        for (int seed = 0; seed < RUNS; seed++) {
            String fault = new Run(seed).play();
            if (fault != null) {
                System.out.println("seed " + seed + ":" + fault);
                System.exit(1);
            }
        }
        System.out.println("all answers are as due");
    }

    /** One run: the same calls to the program and to the model. */
    private static final class Run {
        private final Random random;
        private final SongField x = new SongField();
        private final Model m = new Model();
        private final StringBuilder told = new StringBuilder();
        private final int flavour;

        Run(int seed) {
            random = new Random(seed);
            flavour = seed % 4;
        }

        String play() {
            int calls = 0;
            while (calls < CALLS) {
                if (random.nextInt(12) == 0) {
                    String text = ruleText();
                    for (int i = 0; i < text.length() && calls < CALLS; i++, calls++) {
                        if (!same("feed", x.feed(text.charAt(i), 1), m.feed(text.charAt(i), 1), text.charAt(i), 1)) {
                            return told.toString();
                        }
                    }
                    if (!same("rule", x.rule(), m.rule())) {
                        return told.toString();
                    }
                    calls++;
                } else if (!one(calls)) {
                    return told.toString();
                }
                calls++;
            }
            return null;
        }

        private int up(int bound) {
            if (random.nextInt(20) == 0) {
                int[] odd = {-1, -2, bound, bound + 1, Integer.MIN_VALUE, Integer.MAX_VALUE};
                return odd[random.nextInt(odd.length)];
            }
            return random.nextInt(bound);
        }

        private int aChoir() {
            return up(Math.max(1, m.choirs.size()));
        }

        private int aSong() {
            return up(Math.max(1, m.songs.size()));
        }

        private int aSet(int n, int most) {
            if (random.nextInt(25) == 0) {
                int[] odd = {0, -1, 1 << n, Integer.MIN_VALUE | 1, 31};
                return odd[random.nextInt(odd.length)];
            }
            int set = 0;
            int picks = 1 + random.nextInt(most);
            for (int i = 0; i < picks && n > 0; i++) {
                set |= 1 << random.nextInt(n);
            }
            return set;
        }

        private int someSingers(int kind) {
            int most = flavour == 0 ? 3 : flavour == 1 ? 6 : 99;
            int[] n = new int[4];
            for (int v = 0; v < 4; v++) {
                n[v] = random.nextInt(3) == 0 ? 0 : random.nextInt(most + 1);
            }
            if (kind == 1 && random.nextInt(8) != 0) {
                n[0] = n[1] = 0;
            }
            if (kind == 2 && random.nextInt(8) != 0) {
                n[2] = n[3] = 0;
            }
            return random.nextInt(40) == 0 ? up(100000000) : ((n[0] * 100 + n[1]) * 100 + n[2]) * 100 + n[3];
        }

        private int anX(int kind) {
            if (kind == 4) {
                return up(4);
            }
            if (kind == 5) {
                int n = Math.max(1, m.choirs.size());
                return random.nextInt(20) == 0 ? up(256) : 16 * random.nextInt(n) + random.nextInt(n);
            }
            return random.nextInt(15) == 0 ? up(4) : 0;
        }

        private String ruleText() {
            String[] verbs = {"let ", "bar ", "bar "};
            String[] fields = {"mark", "hard", "town", "size", "day"};
            StringBuilder text = new StringBuilder(verbs[random.nextInt(3)]);
            text.append(random.nextBoolean() ? '*' : (char) ('0' + random.nextInt(6)));
            int tests = random.nextInt(4) == 0 ? 0 : 1 + random.nextInt(2);
            for (int i = 0; i < tests; i++) {
                text.append(i == 0 ? " if " : " and ").append(fields[random.nextInt(5)]);
                text.append("=<>".charAt(random.nextInt(3)));
                text.append(random.nextInt(10) < 8 ? random.nextInt(12) : random.nextInt(1000));
            }
            if (random.nextInt(3) == 0) {
                int at = random.nextInt(text.length());
                int how = random.nextInt(3);
                if (how == 0) {
                    text.setCharAt(at, (char) (random.nextInt(4) == 0 ? random.nextInt(256) : 32 + random.nextInt(95)));
                } else if (how == 1) {
                    text.setLength(at);
                } else {
                    text.append(" and day=1".substring(0, 1 + random.nextInt(10)));
                }
            }
            return text.toString();
        }

        private boolean same(String call, int got, int want, long... args) {
            told.append('\n').append(call).append(java.util.Arrays.toString(args)).append(" -> ").append(got);
            if (got != want) {
                told.append(", due is ").append(want);
            }
            return got == want;
        }

        private boolean one(int calls) {
            int which = calls < 40 && random.nextBoolean() ? random.nextInt(4) : random.nextInt(36);
            int c = aChoir();
            int s = aSong();
            int n = m.choirs.size();
            switch (which) {
                case 0: case 1: {
                    int kind = up(6);
                    int town = up(8);
                    int singers = kind == 5 && random.nextInt(10) != 0 ? 0 : someSingers(kind);
                    int at = anX(kind);
                    return same("choir", x.choir(kind, town, singers, at), m.choir(kind, town, singers, at),
                            kind, town, singers, at);
                }
                case 2: {
                    int kinds = random.nextInt(3) == 0 ? 63 : up(64);
                    int voices = random.nextInt(3) == 0 ? up(16) : 1 << random.nextInt(4);
                    int hard = up(10);
                    int minutes = 1 + up(30);
                    return same("song", x.song(kinds, voices, hard, minutes), m.song(kinds, voices, hard, minutes),
                            kinds, voices, hard, minutes);
                }
                case 3: {
                    int town = up(8);
                    return same("judge", x.judge(town), m.judge(town), town);
                }
                case 4: {
                    int d = random.nextInt(6) == 0 ? up(4) : m.today;
                    return same("day", x.day(d), m.day(d), d);
                }
                case 5: case 6: {
                    int j = up(Math.max(1, m.judges.size()));
                    int v = up(101);
                    return same("mark", x.mark(j, c, v), m.mark(j, c, v), j, c, v);
                }
                case 7:
                    return same("mean", x.mean(c), m.mean(c), c);
                case 8: {
                    int a = up(Math.max(1, m.judges.size()));
                    int b = up(Math.max(1, m.judges.size()));
                    return same("scale", x.scale(a, b), m.scale(a, b), a, b);
                }
                case 9: {
                    int what = up(9);
                    return same("about", x.about(c, what), m.about(c, what), c, what);
                }
                case 10: {
                    int v = up(4);
                    return same("voice", x.voice(c, v), m.voice(c, v), c, v);
                }
                case 11: {
                    long w = random.nextLong();
                    int k = up(9);
                    return same("feed", x.feed(w, k), m.feed(w, k), w, k);
                }
                case 12:
                    return same("rule", x.rule(), m.rule());
                case 13:
                    return same("may", x.may(c, s), m.may(c, s), c, s);
                case 14:
                    return same("why", x.why(c, s), m.why(c, s), c, s);
                case 15: {
                    int k = up(9) - 1;
                    return same("vote", x.vote(c, k), m.vote(c, k), c, k);
                }
                case 16:
                    return same("leader", x.leader(s), m.leader(s), s);
                default:
                    return other(which, c, s, n);
            }
        }

        private boolean other(int which, int c, int s, int n) {
            switch (which) {
                case 17: {
                    int rows = 1 + up(8);
                    int width = random.nextInt(2) == 0 ? 1 + up(60) : 20 + random.nextInt(41);
                    return same("stage", x.stage(rows, width), m.stage(rows, width), rows, width);
                }
                case 18: {
                    int t = up(10);
                    return same("tall", x.tall(c, t), m.tall(c, t), c, t);
                }
                case 19: {
                    int row = up(m.rows);
                    int place = up(m.width);
                    return same("stand", x.stand(c, row, place), m.stand(c, row, place), c, row, place);
                }
                case 20:
                    return same("off", x.off(c), m.off(c), c);
                case 21:
                    return same("well", x.well(c), m.well(c), c);
                case 22:
                    return same("clear", x.clear(), m.clear());
                case 23: {
                    int row = up(m.rows);
                    int set = aSet(n, 4);
                    return same("lay", x.lay(row, set), m.lay(row, set), row, set);
                }
                case 24: {
                    int b = aSong();
                    return same("change", x.change(s, b), m.change(s, b), s, b);
                }
                case 25: {
                    // All orders of 9 songs are too many to try often.
                    int set = aSet(m.songs.size(), random.nextInt(20) == 0 ? 50 : 8);
                    return same("order", x.order(set), m.order(set), set);
                }
                case 26: {
                    for (int i = 0; i < 9; i++) {
                        if (!same("ordered", x.ordered(i), m.ordered(i), i)) {
                            return false;
                        }
                    }
                    int i = up(9);
                    return same("ordered", x.ordered(i), m.ordered(i), i);
                }
                case 27: {
                    int hall = up(4);
                    int hour = random.nextInt(4) == 0 ? up(24) : random.nextInt(3);
                    int set = random.nextInt(3) == 0 ? aSet(n, 3) : m.singing(s) & aSet(n, 8);
                    return same("rehearse", x.rehearse(hall, hour, s, set), m.rehearse(hall, hour, s, set),
                            hall, hour, s, set);
                }
                case 28: {
                    int hall = up(4);
                    int hour = random.nextInt(4) == 0 ? up(24) : random.nextInt(3);
                    return same("hall", x.hall(hall, hour), m.hall(hall, hour), hall, hour);
                }
                case 29:
                    return same("whole", x.whole(s), m.whole(s), s);
                case 30: {
                    int town = up(8);
                    int beds = flavour < 2 ? up(40) : up(1000);
                    return same("beds", x.beds(town, beds), m.beds(town, beds), town, beds);
                }
                case 31: {
                    int town = up(9) - 1;
                    return same("sleep", x.sleep(c, town), m.sleep(c, town), c, town);
                }
                case 32: {
                    int set = aSet(n, 16);
                    return same("bed", x.bed(set), m.bed(set), set);
                }
                case 33:
                    return same("march", x.march(c), m.march(c), c);
                case 34: {
                    if (random.nextBoolean()) {
                        return same("leave", x.leave(c), m.leave(c), c);
                    }
                    int g = up(10);
                    return same("gap", x.gap(g), m.gap(g), g);
                }
                default: {
                    int what = up(11);
                    return same("count", x.count(what), m.count(what), what);
                }
            }
        }
    }

    private static final class Choir {
        int kind, town, day;
        int[] voice = new int[4];
        Choir first, second;
        int tall = 5, sleeps = -1, row = -1, place = -1, vote = -1;

        int size() {
            return voice[0] + voice[1] + voice[2] + voice[3];
        }

        boolean there(int today) {
            return kind == 5 ? first.there(today) && second.there(today) : kind != 4 || day <= today;
        }
    }

    private static final class Song {
        int kinds, voices, hard;
        List<Choir> rehearsed = new ArrayList<>();
    }

    private static final class Rule {
        boolean bars;
        char kind;
        List<String> tests = new ArrayList<>();
    }

    private static final class Model {
        static final String TEST = "(?:mark|hard|town|size|day)[=<>][0-9]{1,3}";
        static final Pattern RULE = Pattern.compile(
                "(let|bar) ([0-5*])(?: if (" + TEST + ")(?: and (" + TEST + "))?)?", Pattern.DOTALL);
        List<Choir> choirs = new ArrayList<>();
        List<Song> songs = new ArrayList<>();
        List<Integer> judges = new ArrayList<>();
        List<Rule> rules = new ArrayList<>();
        List<Choir> march = new ArrayList<>();
        List<Integer> latest = new ArrayList<>();
        Integer[][] marks = new Integer[6][16];
        int[][] hallSong = new int[4][24];
        int[][] hallSet = new int[4][24];
        int[] beds = new int[8];
        String tape = "";
        int today, rows = 4, width = 20, gap = 2;

        boolean noChoir(int c) {
            return c < 0 || c >= choirs.size();
        }

        boolean noSong(int s) {
            return s < 0 || s >= songs.size();
        }

        boolean noJudge(int j) {
            return j < 0 || j >= judges.size();
        }

        boolean noTown(int t) {
            return t < 0 || t > 7;
        }

        List<Choir> ofSet(int set) {
            List<Choir> list = new ArrayList<>();
            for (int i = 0; i < 32; i++) {
                if ((set >>> i & 1) == 1) {
                    if (i >= choirs.size()) {
                        return null;
                    }
                    list.add(choirs.get(i));
                }
            }
            return list;
        }

        int choir(int kind, int town, int singers, int x) {
            if (noTown(town)) {
                return -1;
            }
            int a = Math.floorDiv(x, 16);
            int b = Math.floorMod(x, 16);
            if (kind == 5 && (noChoir(a) || noChoir(b))) {
                return -1;
            }
            if (kind < 0 || kind > 5) {
                return -2;
            }
            Choir c = new Choir();
            c.kind = kind;
            c.town = town;
            if (kind == 5) {
                c.first = choirs.get(a);
                c.second = choirs.get(b);
                if (singers != 0 || a == b || c.first.kind == 5 || c.second.kind == 5) {
                    return -2;
                }
                c.town = c.first.town;
                for (int v = 0; v < 4; v++) {
                    c.voice[v] = c.first.voice[v] + c.second.voice[v];
                }
            } else {
                if (singers < 1 || singers > 99999999) {
                    return -2;
                }
                String digits = String.format("%08d", singers);
                for (int v = 0; v < 4; v++) {
                    c.voice[v] = Integer.parseInt(digits.substring(2 * v, 2 * v + 2));
                }
                if (kind == 1 && c.voice[0] + c.voice[1] > 0 || kind == 2 && c.voice[2] + c.voice[3] > 0) {
                    return -2;
                }
                if (x < 0 || x > (kind == 4 ? 3 : 0)) {
                    return -2;
                }
                c.day = x;
            }
            if (choirs.size() == 16) {
                return -4;
            }
            choirs.add(c);
            return choirs.size() - 1;
        }

        int day(int d) {
            if (d < 0 || d > 3 || d < today) {
                return -2;
            }
            int was = today;
            today = d;
            return was;
        }

        int song(int kinds, int voices, int hard, int minutes) {
            if (kinds < 1 || kinds > 63 || voices < 1 || voices > 15 || hard < 0 || hard > 9
                    || minutes < 1 || minutes > 30) {
                return -2;
            }
            if (songs.size() == 9) {
                return -4;
            }
            Song s = new Song();
            s.kinds = kinds;
            s.voices = voices;
            s.hard = hard;
            songs.add(s);
            return songs.size() - 1;
        }

        int judge(int town) {
            if (noTown(town)) {
                return -1;
            }
            if (judges.size() == 6) {
                return -4;
            }
            judges.add(town);
            return judges.size() - 1;
        }

        int mark(int j, int c, int v) {
            if (noJudge(j) || noChoir(c)) {
                return -5;
            }
            if (v < 0 || v > 100) {
                return -2;
            }
            if (judges.get(j) == choirs.get(c).town) {
                return -3;
            }
            int was = marks[j][c] == null ? -1 : marks[j][c];
            marks[j][c] = v;
            return was;
        }

        int mean(int c) {
            if (noChoir(c)) {
                return -1;
            }
            List<Integer> given = new ArrayList<>();
            for (Integer[] row : marks) {
                if (row[c] != null) {
                    given.add(row[c]);
                }
            }
            return given.isEmpty() ? -1 : given.stream().mapToInt(i -> i).sum() / given.size();
        }

        int scale(int a, int b) {
            if (noJudge(a) || noJudge(b) || a == b) {
                return -200;
            }
            double sum = 0;
            int n = 0;
            for (int c = 0; c < choirs.size(); c++) {
                if (marks[a][c] != null && marks[b][c] != null) {
                    sum += marks[a][c] - marks[b][c];
                    n++;
                }
            }
            return n == 0 ? -200 : (int) Math.floor(sum / n);
        }

        int about(int c, int what) {
            if (noChoir(c) || what < 0 || what > 8) {
                return -1;
            }
            Choir h = choirs.get(c);
            int[] all = {h.kind, h.town, h.size(), h.there(today) ? 1 : 0, h.tall, h.sleeps, h.row, h.place, h.vote};
            return all[what];
        }

        int voice(int c, int v) {
            return noChoir(c) || v < 0 || v > 3 ? -1 : choirs.get(c).voice[v];
        }

        int feed(long w, int n) {
            if (n < 1 || n > 8) {
                return -2;
            }
            if (tape.length() + n > 120) {
                return -4;
            }
            String hex = String.format("%016x", w);
            for (int i = 8 - n; i < 8; i++) {
                tape += (char) Integer.parseInt(hex.substring(2 * i, 2 * i + 2), 16);
            }
            return tape.length();
        }

        int rule() {
            if (rules.size() == 12) {
                return -4;
            }
            Matcher whole = RULE.matcher(tape);
            if (!whole.matches()) {
                int fault = 0;
                while (fault < tape.length() && begins(tape.substring(0, fault + 1))) {
                    fault++;
                }
                tape = "";
                return -10 - fault;
            }
            Rule r = new Rule();
            r.bars = whole.group(1).equals("bar");
            r.kind = whole.group(2).charAt(0);
            for (int g = 3; g <= 4; g++) {
                if (whole.group(g) != null) {
                    r.tests.add(whole.group(g));
                }
            }
            rules.add(r);
            tape = "";
            return rules.size() - 1;
        }

        static boolean begins(String head) {
            Matcher m = RULE.matcher(head);
            return m.matches() || m.hitEnd();
        }

        boolean holds(Rule r, int c, int s) {
            Choir h = choirs.get(c);
            if (r.kind != '*' && r.kind - '0' != h.kind) {
                return false;
            }
            for (String test : r.tests) {
                int at = test.indexOf('=') + test.indexOf('<') + test.indexOf('>') + 2;
                int number = Integer.parseInt(test.substring(at + 1));
                int value = switch (test.substring(0, at)) {
                    case "mark" -> Math.max(0, mean(c));
                    case "hard" -> songs.get(s).hard;
                    case "town" -> h.town;
                    case "size" -> h.size();
                    default -> today;
                };
                int sign = Integer.signum(Integer.compare(value, number));
                if ("<=>".charAt(sign + 1) != test.charAt(at)) {
                    return false;
                }
            }
            return true;
        }

        int why(int c, int s) {
            if (noChoir(c) || noSong(s)) {
                return -1;
            }
            int last = -1;
            for (int r = 0; r < rules.size(); r++) {
                if (holds(rules.get(r), c, s)) {
                    last = r;
                }
            }
            return last;
        }

        int may(int c, int s) {
            if (noChoir(c) || noSong(s)) {
                return -1;
            }
            Choir h = choirs.get(c);
            Song g = songs.get(s);
            if (!h.there(today)) {
                return 1;
            }
            if ((g.kinds & 1 << h.kind) == 0) {
                return 2;
            }
            for (int v = 0; v < 4; v++) {
                if ((g.voices & 1 << v) != 0 && h.voice[v] == 0) {
                    return 3;
                }
            }
            int r = why(c, s);
            return r >= 0 && rules.get(r).bars ? 4 : 0;
        }

        int singing(int s) {
            int set = 0;
            for (int c = 0; c < choirs.size(); c++) {
                set |= may(c, s) == 0 ? 1 << c : 0;
            }
            return set;
        }

        int vote(int c, int k) {
            if (noChoir(c) || k < -1 || k > 7) {
                return -5;
            }
            int was = choirs.get(c).vote;
            choirs.get(c).vote = k;
            return was;
        }

        int leader(int s) {
            if (noSong(s)) {
                return -1;
            }
            int[] votes = new int[8];
            for (int c = 0; c < choirs.size(); c++) {
                Choir h = choirs.get(c);
                if (may(c, s) == 0 && h.vote >= 0) {
                    votes[h.vote] += (int) Math.ceil(h.size() / 10.0);
                }
            }
            int best = -1;
            for (int k = 7; k >= 0; k--) {
                if (votes[k] > 0 && (best < 0 || votes[k] >= votes[best])) {
                    best = k;
                }
            }
            return best;
        }

        int stage(int r, int w) {
            if (r < 1 || r > 8 || w < 1 || w > 60) {
                return -2;
            }
            if (count(5) > 0) {
                return -3;
            }
            rows = r;
            width = w;
            return 0;
        }

        int tall(int c, int t) {
            if (noChoir(c)) {
                return -1;
            }
            if (t < 0 || t > 9) {
                return -2;
            }
            int was = choirs.get(c).tall;
            choirs.get(c).tall = t;
            return was;
        }

        boolean[][] places() {
            boolean[][] taken = new boolean[rows][width];
            for (Choir h : choirs) {
                for (int i = 0; h.row >= 0 && i < h.size(); i++) {
                    taken[h.row][h.place + i] = true;
                }
            }
            return taken;
        }

        int stand(int c, int row, int place) {
            if (noChoir(c) || row < 0 || row >= rows || place < 0 || place >= width) {
                return -1;
            }
            Choir h = choirs.get(c);
            if (h.row >= 0 || !h.there(today)) {
                return -3;
            }
            boolean[][] taken = places();
            for (int i = 0; i < h.size(); i++) {
                if (place + i >= width || taken[row][place + i]) {
                    return -3;
                }
            }
            h.row = row;
            h.place = place;
            return 0;
        }

        /** Seconds; less than 0 for the right door. */
        int way(int place, int size) {
            int right = width - place - size;
            return place <= right ? place + size : -(right + size);
        }

        int off(int c) {
            if (noChoir(c)) {
                return -1;
            }
            Choir h = choirs.get(c);
            if (h.row < 0) {
                return -3;
            }
            int seconds = Math.abs(way(h.place, h.size()));
            h.row = -1;
            h.place = -1;
            return seconds;
        }

        int well(int c) {
            if (noChoir(c)) {
                return -1;
            }
            Choir h = choirs.get(c);
            if (h.row < 0) {
                return -3;
            }
            return choirs.stream().anyMatch(o -> o.row >= 0 && o.row < h.row && o.tall > h.tall) ? 0 : 1;
        }

        int clear() {
            int[] doors = new int[2];
            for (Choir h : choirs) {
                if (h.row >= 0) {
                    int way = way(h.place, h.size());
                    doors[way > 0 ? 0 : 1] += Math.abs(way);
                }
            }
            return Math.max(doors[0], doors[1]);
        }

        static void orders(List<Integer> left, List<Integer> head, List<List<Integer>> all) {
            if (left.isEmpty()) {
                all.add(new ArrayList<>(head));
            }
            for (int i = 0; i < left.size(); i++) {
                List<Integer> rest = new ArrayList<>(left);
                head.add(rest.remove(i));
                orders(rest, head, all);
                head.remove(head.size() - 1);
            }
        }

        static List<Integer> bits(int set) {
            List<Integer> list = new ArrayList<>();
            for (int i = 0; i < 31; i++) {
                if ((set >> i & 1) == 1) {
                    list.add(i);
                }
            }
            return list;
        }

        int lay(int row, int set) {
            if (row < 0 || row >= rows) {
                return -1;
            }
            List<Choir> laid = ofSet(set);
            if (laid == null || laid.isEmpty() || laid.size() > 4) {
                return -2;
            }
            int sum = 0;
            for (Choir h : laid) {
                if (h.row >= 0 || !h.there(today)) {
                    return -3;
                }
                sum += h.size();
            }
            if (sum > width || choirs.stream().anyMatch(h -> h.row == row)) {
                return -3;
            }
            List<List<Integer>> all = new ArrayList<>();
            orders(bits(set), new ArrayList<>(), all);
            int least = Integer.MAX_VALUE;
            List<Integer> best = null;
            for (List<Integer> line : all) {
                int[] doors = new int[2];
                int place = 0;
                for (int c : line) {
                    int way = way(place, choirs.get(c).size());
                    doors[way > 0 ? 0 : 1] += Math.abs(way);
                    place += choirs.get(c).size();
                }
                if (Math.max(doors[0], doors[1]) < least) {
                    least = Math.max(doors[0], doors[1]);
                    best = line;
                }
            }
            int place = 0;
            for (int c : best) {
                choirs.get(c).row = row;
                choirs.get(c).place = place;
                place += choirs.get(c).size();
            }
            return least;
        }

        int change(int a, int b) {
            if (noSong(a) || noSong(b)) {
                return -1;
            }
            if (a == b) {
                return -2;
            }
            int sum = 0;
            for (int c = 0; c < choirs.size(); c++) {
                if ((may(c, a) == 0) != (may(c, b) == 0)) {
                    sum += (int) Math.ceil(choirs.get(c).size() / 5.0);
                }
            }
            return sum;
        }

        boolean young(int s) {
            for (int c = 0; c < choirs.size(); c++) {
                if (choirs.get(c).kind == 3 && may(c, s) == 0) {
                    return true;
                }
            }
            return false;
        }

        int order(int set) {
            if (set <= 0 || set >= 1 << songs.size()) {
                return -2;
            }
            int n = songs.size();
            int[][] cost = new int[n][n];
            boolean[] young = new boolean[n];
            for (int a = 0; a < n; a++) {
                young[a] = young(a);
                for (int b = 0; b < n; b++) {
                    cost[a][b] = change(a, b);
                }
            }
            leastSum = Integer.MAX_VALUE;
            tryOrders(cost, young, bits(set), new ArrayList<>(), 0);
            return leastSum == Integer.MAX_VALUE ? -3 : leastSum;
        }

        int leastSum;

        /** Tries the orders from the least on; one whose sum is not less any more is given up. */
        void tryOrders(int[][] cost, boolean[] young, List<Integer> left, List<Integer> head, int sum) {
            if (sum >= leastSum) {
                return;
            }
            if (left.isEmpty()) {
                leastSum = sum;
                latest = new ArrayList<>(head);
                return;
            }
            for (int i = 0; i < left.size(); i++) {
                List<Integer> rest = new ArrayList<>(left);
                int next = rest.remove(i);
                int last = head.isEmpty() ? -1 : head.get(head.size() - 1);
                if (last < 0 || !young[last] || !young[next]) {
                    head.add(next);
                    tryOrders(cost, young, rest, head, sum + (last < 0 ? 0 : cost[last][next]));
                    head.remove(head.size() - 1);
                }
            }
        }

        int ordered(int i) {
            return i < 0 || i >= latest.size() ? -1 : latest.get(i);
        }

        int rehearse(int hall, int hour, int s, int set) {
            if (hall < 0 || hall > 3 || hour < 0 || hour > 23 || noSong(s)) {
                return -1;
            }
            List<Choir> with = ofSet(set);
            if (with == null || with.isEmpty()) {
                return -2;
            }
            for (int c : bits(set)) {
                if (may(c, s) != 0) {
                    return -3;
                }
                for (int h = 0; h < 4; h++) {
                    if (h != hall && (hallSet[h][hour] >> c & 1) == 1) {
                        return -3;
                    }
                }
            }
            if (hallSong[hall][hour] != 0) {
                return -3;
            }
            hallSong[hall][hour] = s + 1;
            hallSet[hall][hour] = set;
            songs.get(s).rehearsed.addAll(with);
            return with.size();
        }

        int hall(int hall, int hour) {
            return hall < 0 || hall > 3 || hour < 0 || hour > 23 ? -1 : hallSong[hall][hour] - 1;
        }

        int whole(int s) {
            if (noSong(s)) {
                return -1;
            }
            List<Choir> singing = ofSet(singing(s));
            return !singing.isEmpty() && songs.get(s).rehearsed.containsAll(singing) ? 1 : 0;
        }

        int free(int town) {
            return beds[town] - choirs.stream().filter(h -> h.sleeps == town).mapToInt(Choir::size).sum();
        }

        int beds(int town, int n) {
            if (noTown(town)) {
                return -1;
            }
            if (n < 0 || n > 999) {
                return -2;
            }
            if (beds[town] - free(town) > n) {
                return -3;
            }
            int was = beds[town];
            beds[town] = n;
            return was;
        }

        int sleep(int c, int town) {
            if (noChoir(c) || town != -1 && noTown(town)) {
                return -5;
            }
            Choir h = choirs.get(c);
            if (town >= 0 && town != h.sleeps && (town == h.town || free(town) < h.size())) {
                return -3;
            }
            int was = h.sleeps;
            h.sleeps = town;
            return was;
        }

        int bed(int set) {
            List<Choir> guests = ofSet(set);
            if (guests == null) {
                return -2;
            }
            int without = 0;
            for (Choir h : guests) {
                if (h.sleeps >= 0) {
                    continue;
                }
                List<Integer> free = new ArrayList<>();
                for (int town = 0; town < 8; town++) {
                    if (town != h.town && free(town) >= h.size()) {
                        free.add(free(town) * 8 + town);
                    }
                }
                if (free.isEmpty()) {
                    without++;
                } else {
                    h.sleeps = Collections.min(free) % 8;
                }
            }
            return without;
        }

        int length() {
            int sum = 0;
            for (int i = 0; i < march.size(); i++) {
                sum += (int) Math.ceil(march.get(i).size() / 4.0) + (i > 0 ? gap : 0);
            }
            return sum;
        }

        int march(int c) {
            if (noChoir(c)) {
                return -1;
            }
            if (march.contains(choirs.get(c))) {
                return -3;
            }
            march.add(choirs.get(c));
            return length();
        }

        int leave(int c) {
            if (noChoir(c)) {
                return -1;
            }
            return march.remove(choirs.get(c)) ? length() : -3;
        }

        int gap(int g) {
            if (g < 0 || g > 9) {
                return -2;
            }
            int was = gap;
            gap = g;
            return was;
        }

        int count(int what) {
            switch (what) {
                case 0:
                    return choirs.size();
                case 1:
                    return songs.size();
                case 2:
                    return judges.size();
                case 3:
                    return rules.size();
                case 4:
                    return today;
                case 5:
                    return (int) choirs.stream().filter(h -> h.row >= 0).count();
                case 6:
                    return march.size();
                case 7:
                    return length();
                case 8:
                    return tape.length();
                case 9:
                    return (int) choirs.stream().filter(h -> h.sleeps >= 0).count();
                case 10:
                    return choirs.stream().filter(h -> h.there(today)).mapToInt(Choir::size).sum();
                default:
                    return -1;
            }
        }
    }
}
