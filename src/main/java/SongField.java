import java.util.Arrays;

/** A song festival. The document (../shared/DOC.md) says what each call answers and changes. */
public final class SongField {
    public static final int NONE = -1, BAD = -2, STATE = -3, FULL = -4;

    private static final int NO_SUCH = -5;
    private static final int NO_SCALE = -200;
    private static final int FAULT_FROM = -10;

    private static final int MEN = 1, WOMEN = 2, YOUNG = 3, FAR = 4, JOINT = 5;
    private static final int KINDS = 6;

    private static final int CHOIRS = 16;
    private static final int VOICES = 4;
    private static final int TOWNS = 8;
    private static final int DAYS = 4;
    private static final int SONGS = 9;
    private static final int JUDGES = 6;
    private static final int CONDUCTORS = 8;
    private static final int TAPE = 120;
    private static final int RULES = 12;
    private static final int TESTS = 2;
    private static final int LAID = 4;
    private static final int HALLS = 4;
    private static final int HOURS = 24;

    private static final int MARK = 0, HARD = 1, TOWN = 2, SIZE = 3, DAY = 4;

    /** Above every sum of CHANGES, and far from wrapping around when one is added to it. */
    private static final int NEVER = 1000000;

    private final Choirs choirs = new Choirs();
    private final Songs songs = new Songs();
    private final Judges judges = new Judges();
    private final Tape tape = new Tape();
    private final Rules rules = new Rules();
    private final Stage theStage = new Stage(choirs);
    private final Program program = new Program();
    private final Halls halls = new Halls();
    private final Lodging lodging = new Lodging(choirs);
    private final March theMarch = new March(choirs);
    private int today = 0;

    public SongField() {
    }

    // ---- choirs, songs, judges

    public int choir(int kind, int town, int singers, int x) {
        if (!isTown(town) || (kind == JOINT && !choirs.hasParts(x))) {
            return NONE;
        }
        if (!choirs.isAsTold(kind, singers, x)) {
            return BAD;
        }
        if (choirs.number >= CHOIRS) {
            return FULL;
        }
        if (kind == JOINT) {
            return choirs.join(firstPart(x), secondPart(x));
        }
        return choirs.add(kind, town, singers, x);
    }

    public int day(int d) {
        if (d < today || d >= DAYS) {
            return BAD;
        }
        int was = today;
        today = d;
        return was;
    }

    public int song(int kinds, int voices, int hardness, int minutes) {
        if (!isWithin(kinds, 1, 63) || !isWithin(voices, 1, 15)
                || !isWithin(hardness, 0, 9) || !isWithin(minutes, 1, 30)) {
            return BAD;
        }
        if (songs.number >= SONGS) {
            return FULL;
        }
        return songs.add(kinds, voices, hardness);
    }

    public int judge(int town) {
        if (!isTown(town)) {
            return NONE;
        }
        if (judges.number >= JUDGES) {
            return FULL;
        }
        return judges.add(town);
    }

    public int mark(int judge, int choir, int v) {
        if (!judges.has(judge) || !choirs.has(choir)) {
            return NO_SUCH;
        }
        if (!isWithin(v, 0, 100)) {
            return BAD;
        }
        if (judges.town[judge] == choirs.town[choir]) {
            return STATE;
        }
        return judges.give(judge, choir, v);
    }

    public int mean(int choir) {
        return choirs.has(choir) ? judges.meanOf(choir) : NONE;
    }

    public int scale(int a, int b) {
        if (!judges.has(a) || !judges.has(b) || a == b) {
            return NO_SCALE;
        }
        return judges.scaleOf(a, b);
    }

    public int about(int choir, int what) {
        if (!choirs.has(choir)) {
            return NONE;
        }
        switch (what) {
            case 0:
                return choirs.kind[choir];
            case 1:
                return choirs.town[choir];
            case 2:
                return choirs.size[choir];
            case 3:
                return isThere(choir) ? 1 : 0;
            case 4:
                return choirs.height[choir];
            case 5:
                return lodging.townOf[choir];
            case 6:
                return theStage.rowOf[choir];
            case 7:
                return theStage.placeOf[choir];
            case 8:
                return choirs.conductor[choir];
            default:
                return NONE;
        }
    }

    public int voice(int choir, int v) {
        if (!choirs.has(choir) || v < 0 || v >= VOICES) {
            return NONE;
        }
        return choirs.singers[choir * VOICES + v];
    }

    // ---- rules

    public int feed(long w, int n) {
        if (!isWithin(n, 1, 8)) {
            return BAD;
        }
        if (tape.length + n > TAPE) {
            return FULL;
        }
        return tape.append(w, n);
    }

    public int rule() {
        if (rules.number >= RULES) {
            return FULL;
        }
        boolean read = tape.readRule();
        tape.length = 0;
        return read ? rules.add(tape) : FAULT_FROM - tape.at;
    }

    public int may(int choir, int song) {
        return choirs.has(choir) && songs.has(song) ? verdict(choir, song) : NONE;
    }

    public int why(int choir, int song) {
        return choirs.has(choir) && songs.has(song) ? lastRuleThatHolds(choir, song) : NONE;
    }

    public int vote(int choir, int conductor) {
        if (!choirs.has(choir) || !isWithin(conductor, NONE, CONDUCTORS - 1)) {
            return NO_SUCH;
        }
        int was = choirs.conductor[choir];
        choirs.conductor[choir] = conductor;
        return was;
    }

    public int leader(int song) {
        if (!songs.has(song)) {
            return NONE;
        }
        int singing = choirsThatMay(song);
        int leader = NONE;
        int most = 0;
        for (int conductor = 0; conductor < CONDUCTORS; conductor++) {
            int votes = choirs.votesFor(conductor, singing);
            if (votes > most) {
                most = votes;
                leader = conductor;
            }
        }
        return leader;
    }

    // ---- the stage

    public int stage(int rows, int width) {
        if (!isWithin(rows, 1, 8) || !isWithin(width, 1, 60)) {
            return BAD;
        }
        if (theStage.blocks() > 0) {
            return STATE;
        }
        theStage.rows = rows;
        theStage.width = width;
        return 0;
    }

    public int tall(int choir, int t) {
        if (!choirs.has(choir)) {
            return NONE;
        }
        if (!isWithin(t, 0, 9)) {
            return BAD;
        }
        int was = choirs.height[choir];
        choirs.height[choir] = t;
        return was;
    }

    public int stand(int choir, int row, int place) {
        if (!choirs.has(choir) || !theStage.hasRow(row) || place < 0 || place >= theStage.width) {
            return NONE;
        }
        if (theStage.holds(choir) || !isThere(choir) || !theStage.hasRoom(row, place, choirs.size[choir])) {
            return STATE;
        }
        theStage.put(choir, row, place);
        return 0;
    }

    public int off(int choir) {
        if (!choirs.has(choir)) {
            return NONE;
        }
        if (!theStage.holds(choir)) {
            return STATE;
        }
        int seconds = theStage.seconds(theStage.placeOf[choir], choirs.size[choir]);
        theStage.put(choir, NONE, NONE);
        return seconds;
    }

    public int well(int choir) {
        if (!choirs.has(choir)) {
            return NONE;
        }
        if (!theStage.holds(choir)) {
            return STATE;
        }
        return theStage.isHidden(choir) ? 0 : 1;
    }

    public int clear() {
        return theStage.clearOfAll();
    }

    public int lay(int row, int set) {
        if (!theStage.hasRow(row)) {
            return NONE;
        }
        if (!isSetOfChoirs(set) || Integer.bitCount(set) > LAID) {
            return BAD;
        }
        if (!areReadyToBeLaid(set) || !theStage.isFree(row) || choirs.sizeOfSet(set) > theStage.width) {
            return STATE;
        }
        return theStage.putBestLine(row, set);
    }

    // ---- orders, halls, beds, the march

    public int change(int a, int b) {
        if (!songs.has(a) || !songs.has(b)) {
            return NONE;
        }
        if (a == b) {
            return BAD;
        }
        return choirs.changeOf(choirsThatMay(a) ^ choirsThatMay(b));
    }

    public int order(int set) {
        if (set == 0 || !songs.hasAll(set)) {
            return BAD;
        }
        program.begin();
        for (int song = 0; song < songs.number; song++) {
            if ((set >> song & 1) == 1) {
                program.add(song, choirsThatMay(song));
            }
        }
        program.price(choirs);
        int sum = program.leastSum();
        if (sum >= NEVER) {
            return STATE;
        }
        program.keepOrder(sum);
        return sum;
    }

    public int ordered(int i) {
        return i >= 0 && i < program.keptLength ? program.kept[i] : NONE;
    }

    public int rehearse(int hall, int hour, int song, int set) {
        if (!halls.has(hall, hour) || !songs.has(song)) {
            return NONE;
        }
        if (!isSetOfChoirs(set)) {
            return BAD;
        }
        boolean allMay = (set & ~choirsThatMay(song)) == 0;
        if (!allMay || !halls.isFree(hall, hour) || (halls.busyAt(hour) & set) != 0) {
            return STATE;
        }
        halls.take(hall, hour, song, set);
        songs.rehearsedBy[song] |= set;
        return Integer.bitCount(set);
    }

    public int hall(int hall, int hour) {
        return halls.has(hall, hour) ? halls.songIn(hall, hour) : NONE;
    }

    public int whole(int song) {
        if (!songs.has(song)) {
            return NONE;
        }
        int singing = choirsThatMay(song);
        return singing != 0 && (singing & ~songs.rehearsedBy[song]) == 0 ? 1 : 0;
    }

    public int beds(int town, int n) {
        if (!isTown(town)) {
            return NONE;
        }
        if (!isWithin(n, 0, 999)) {
            return BAD;
        }
        if (lodging.taken(town) > n) {
            return STATE;
        }
        int was = lodging.bedsOf[town];
        lodging.bedsOf[town] = n;
        return was;
    }

    public int sleep(int choir, int town) {
        if (!choirs.has(choir) || (town != NONE && !isTown(town))) {
            return NO_SUCH;
        }
        if (town != NONE && !lodging.canTake(town, choir)) {
            return STATE;
        }
        int was = lodging.townOf[choir];
        lodging.townOf[choir] = town;
        return was;
    }

    public int bed(int set) {
        if (!choirs.hasAll(set)) {
            return BAD;
        }
        int without = 0;
        for (int choir = 0; choir < choirs.number; choir++) {
            if ((set >> choir & 1) == 1 && lodging.townOf[choir] == NONE) {
                int town = lodging.tightestTown(choir);
                lodging.townOf[choir] = town;
                without += town == NONE ? 1 : 0;
            }
        }
        return without;
    }

    public int march(int choir) {
        if (!choirs.has(choir)) {
            return NONE;
        }
        if (theMarch.holds(choir)) {
            return STATE;
        }
        theMarch.add(choir);
        return theMarch.length();
    }

    public int leave(int choir) {
        if (!choirs.has(choir)) {
            return NONE;
        }
        if (!theMarch.holds(choir)) {
            return STATE;
        }
        theMarch.remove(choir);
        return theMarch.length();
    }

    public int gap(int g) {
        if (!isWithin(g, 0, 9)) {
            return BAD;
        }
        int was = theMarch.space;
        theMarch.space = g;
        return was;
    }

    public int count(int what) {
        switch (what) {
            case 0:
                return choirs.number;
            case 1:
                return songs.number;
            case 2:
                return judges.number;
            case 3:
                return rules.number;
            case 4:
                return today;
            case 5:
                return theStage.blocks();
            case 6:
                return theMarch.number();
            case 7:
                return theMarch.length();
            case 8:
                return tape.length;
            case 9:
                return lodging.sleepers();
            case 10:
                return singersThere();
            default:
                return NONE;
        }
    }

    // ---- what several calls ask

    private static boolean isWithin(int value, int least, int most) {
        return value >= least && value <= most;
    }

    private static boolean isTown(int town) {
        return town >= 0 && town < TOWNS;
    }

    private static int firstPart(int x) {
        return x >> 4;
    }

    private static int secondPart(int x) {
        return x & 15;
    }

    /** "1 for each so many, up": a last portion that is not full counts as well. */
    private static int portions(int singers, int each) {
        return each > 0 ? (singers + each - 1) / each : 0;
    }

    private boolean isSetOfChoirs(int set) {
        return set != 0 && choirs.hasAll(set);
    }

    private boolean isThere(int choir) {
        return choirs.firstDay[choir] <= today;
    }

    private int singersThere() {
        int sum = 0;
        for (int choir = 0; choir < choirs.number; choir++) {
            if (isThere(choir)) {
                sum += choirs.size[choir];
            }
        }
        return sum;
    }

    private boolean areReadyToBeLaid(int set) {
        for (int choir = 0; choir < choirs.number; choir++) {
            if ((set >> choir & 1) == 1 && (theStage.holds(choir) || !isThere(choir))) {
                return false;
            }
        }
        return true;
    }

    private int verdict(int choir, int song) {
        if (!isThere(choir)) {
            return 1;
        }
        if ((songs.kinds[song] >> choirs.kind[choir] & 1) == 0) {
            return 2;
        }
        if ((songs.voices[song] & ~choirs.voicesOf(choir)) != 0) {
            return 3;
        }
        int rule = lastRuleThatHolds(choir, song);
        return rule != NONE && rules.bars[rule] ? 4 : 0;
    }

    private int lastRuleThatHolds(int choir, int song) {
        for (int rule = rules.number - 1; rule >= 0; rule--) {
            if (ruleHolds(rule, choir, song)) {
                return rule;
            }
        }
        return NONE;
    }

    private boolean ruleHolds(int rule, int choir, int song) {
        if (rules.kind[rule] != NONE && rules.kind[rule] != choirs.kind[choir]) {
            return false;
        }
        for (int test = 0; test < rules.tests[rule]; test++) {
            int value = valueOf(rules.fieldOf(rule, test), choir, song);
            if (!rules.testHolds(rule, test, value)) {
                return false;
            }
        }
        return true;
    }

    private int valueOf(int field, int choir, int song) {
        switch (field) {
            case MARK:
                return Math.max(0, judges.meanOf(choir));
            case HARD:
                return songs.hardness[song];
            case TOWN:
                return choirs.town[choir];
            case SIZE:
                return choirs.size[choir];
            default:
                return today;
        }
    }

    private int choirsThatMay(int song) {
        int set = 0;
        for (int choir = 0; choir < choirs.number; choir++) {
            if (verdict(choir, song) == 0) {
                set |= 1 << choir;
            }
        }
        return set;
    }

    // ---- the parts of a festival

    private static final class Choirs {
        int number = 0;
        final int[] kind = new int[CHOIRS];
        final int[] town = new int[CHOIRS];
        final int[] firstDay = new int[CHOIRS];
        final int[] singers = new int[CHOIRS * VOICES];
        final int[] size = new int[CHOIRS];
        final int[] height = new int[CHOIRS];
        final int[] conductor = new int[CHOIRS];

        boolean has(int choir) {
            return choir >= 0 && choir < number;
        }

        boolean hasAll(int set) {
            return (set & -(1 << number)) == 0;
        }

        boolean hasParts(int x) {
            return has(firstPart(x)) && has(secondPart(x));
        }

        boolean isAsTold(int kind, int singers, int x) {
            if (kind == JOINT) {
                return singers == 0 && canJoin(firstPart(x), secondPart(x));
            }
            if (!isWithin(kind, 0, KINDS - 1) || !isWithin(singers, 1, 99999999)) {
                return false;
            }
            if (kind == FAR) {
                return x >= 0 && x < DAYS;
            }
            boolean fits = (kind != MEN || singers < 10000) && (kind != WOMEN || singers % 10000 == 0);
            return fits && x == 0;
        }

        private boolean canJoin(int first, int second) {
            return has(first) && has(second) && first != second
                    && kind[first] != JOINT && kind[second] != JOINT;
        }

        int add(int newKind, int newTown, int digits, int day) {
            int choir = open(newKind, newTown, day);
            int left = digits;
            for (int v = VOICES - 1; v >= 0; v--) {
                seat(choir, v, left % 100);
                left /= 100;
            }
            return choir;
        }

        /** Days never go back, so a JOINT choir is there from the later of its parts' days on. */
        int join(int first, int second) {
            int choir = open(JOINT, town[first], Math.max(firstDay[first], firstDay[second]));
            for (int v = 0; v < VOICES; v++) {
                seat(choir, v, singers[first * VOICES + v] + singers[second * VOICES + v]);
            }
            return choir;
        }

        private int open(int newKind, int newTown, int day) {
            int choir = number;
            kind[choir] = newKind;
            town[choir] = newTown;
            firstDay[choir] = day;
            height[choir] = 5;
            conductor[choir] = NONE;
            number++;
            return choir;
        }

        private void seat(int choir, int v, int n) {
            singers[choir * VOICES + v] = n;
            size[choir] += n;
        }

        int voicesOf(int choir) {
            int set = 0;
            for (int v = 0; v < VOICES; v++) {
                if (singers[choir * VOICES + v] > 0) {
                    set |= 1 << v;
                }
            }
            return set;
        }

        int sizeOfSet(int set) {
            int sum = 0;
            for (int choir = 0; choir < number; choir++) {
                sum += (set >> choir & 1) * size[choir];
            }
            return sum;
        }

        int changeOf(int set) {
            int sum = 0;
            for (int choir = 0; choir < number; choir++) {
                sum += (set >> choir & 1) * portions(size[choir], 5);
            }
            return sum;
        }

        int votesFor(int wanted, int set) {
            int sum = 0;
            for (int choir = 0; choir < number; choir++) {
                if ((set >> choir & 1) == 1 && conductor[choir] == wanted) {
                    sum += portions(size[choir], 10);
                }
            }
            return sum;
        }

        int setOfKind(int wanted) {
            int set = 0;
            for (int choir = 0; choir < number; choir++) {
                if (kind[choir] == wanted) {
                    set |= 1 << choir;
                }
            }
            return set;
        }
    }

    /** A SONG's MINUTES are checked when it is told, but no call asks for them. */
    private static final class Songs {
        int number = 0;
        final int[] kinds = new int[SONGS];
        final int[] voices = new int[SONGS];
        final int[] hardness = new int[SONGS];
        final int[] rehearsedBy = new int[SONGS];

        boolean has(int song) {
            return song >= 0 && song < number;
        }

        boolean hasAll(int set) {
            return (set & -(1 << number)) == 0;
        }

        int add(int newKinds, int newVoices, int newHardness) {
            int song = number;
            kinds[song] = newKinds;
            voices[song] = newVoices;
            hardness[song] = newHardness;
            number++;
            return song;
        }
    }

    private static final class Judges {
        int number = 0;
        final int[] town = new int[JUDGES];
        final int[] marks = new int[JUDGES * CHOIRS];

        Judges() {
            Arrays.fill(marks, NONE);
        }

        boolean has(int judge) {
            return judge >= 0 && judge < number;
        }

        int add(int newTown) {
            int judge = number;
            town[judge] = newTown;
            number++;
            return judge;
        }

        int give(int judge, int choir, int v) {
            int was = marks[judge * CHOIRS + choir];
            marks[judge * CHOIRS + choir] = v;
            return was;
        }

        int meanOf(int choir) {
            int sum = 0;
            int given = 0;
            for (int judge = 0; judge < number; judge++) {
                int v = marks[judge * CHOIRS + choir];
                if (v != NONE) {
                    sum += v;
                    given++;
                }
            }
            return given == 0 ? NONE : sum / given;
        }

        int scaleOf(int a, int b) {
            int sum = 0;
            int both = 0;
            for (int choir = 0; choir < CHOIRS; choir++) {
                int one = marks[a * CHOIRS + choir];
                int other = marks[b * CHOIRS + choir];
                if (one != NONE && other != NONE) {
                    sum += one - other;
                    both++;
                }
            }
            return both == 0 ? NO_SCALE : Math.floorDiv(sum, both);
        }
    }

    /**
     * THE TAPE and what was read from it. Each word and sign of a RULE is told by its first byte,
     * so the reader never goes back, and where it stops is the FAULT.
     */
    private static final class Tape {
        int length = 0;
        int at = 0;
        boolean bars = false;
        int kind = NONE;
        int tests = 0;
        final int[] bytes = new int[TAPE];
        final int[] fields = new int[TESTS];
        final int[] signs = new int[TESTS];
        final int[] numbers = new int[TESTS];

        int append(long w, int n) {
            for (int i = n - 1; i >= 0 && length < TAPE; i--) {
                bytes[length] = (int) (w >> (8 * i) & 255);
                length++;
            }
            return length;
        }

        boolean readRule() {
            at = 0;
            tests = 0;
            return readVerb() && readWord(" ") && readKind() && readTests() && isAtEnd();
        }

        private boolean readVerb() {
            bars = here() == 'b';
            return readWord(bars ? "bar" : "let");
        }

        private boolean readKind() {
            int sign = here();
            if (sign != '*' && !isWithin(sign, '0', '5')) {
                return false;
            }
            kind = sign == '*' ? NONE : sign - '0';
            at++;
            return true;
        }

        private boolean readTests() {
            for (int test = 0; test < TESTS && !isAtEnd(); test++) {
                if (!readWord(test == 0 ? " if " : " and ") || !readTest(test)) {
                    return false;
                }
                tests++;
            }
            return true;
        }

        private boolean readTest(int test) {
            return readField(test) && readSign(test) && readNumber(test);
        }

        private boolean readField(int test) {
            switch (here()) {
                case 'm':
                    fields[test] = MARK;
                    return readWord("mark");
                case 'h':
                    fields[test] = HARD;
                    return readWord("hard");
                case 't':
                    fields[test] = TOWN;
                    return readWord("town");
                case 's':
                    fields[test] = SIZE;
                    return readWord("size");
                case 'd':
                    fields[test] = DAY;
                    return readWord("day");
                default:
                    return false;
            }
        }

        private boolean readSign(int test) {
            int sign = here();
            if (sign != '=' && sign != '<' && sign != '>') {
                return false;
            }
            signs[test] = sign;
            at++;
            return true;
        }

        private boolean readNumber(int test) {
            int digits = 0;
            int number = 0;
            while (digits < 3 && isWithin(here(), '0', '9')) {
                number = number * 10 + here() - '0';
                digits++;
                at++;
            }
            numbers[test] = number;
            return digits > 0;
        }

        private boolean readWord(String word) {
            for (int i = 0; i < word.length(); i++) {
                if (here() != word.charAt(i)) {
                    return false;
                }
                at++;
            }
            return true;
        }

        private boolean isAtEnd() {
            return at >= length;
        }

        private int here() {
            return at >= 0 && at < length && at < TAPE ? bytes[at] : NONE;
        }
    }

    private static final class Rules {
        int number = 0;
        final boolean[] bars = new boolean[RULES];
        final int[] kind = new int[RULES];
        final int[] tests = new int[RULES];
        final int[] fields = new int[RULES * TESTS];
        final int[] signs = new int[RULES * TESTS];
        final int[] numbers = new int[RULES * TESTS];

        int add(Tape read) {
            int rule = number;
            bars[rule] = read.bars;
            kind[rule] = read.kind;
            tests[rule] = read.tests;
            for (int test = 0; test < TESTS; test++) {
                fields[rule * TESTS + test] = read.fields[test];
                signs[rule * TESTS + test] = read.signs[test];
                numbers[rule * TESTS + test] = read.numbers[test];
            }
            number++;
            return rule;
        }

        int fieldOf(int rule, int test) {
            return fields[rule * TESTS + test];
        }

        boolean testHolds(int rule, int test, int value) {
            int wanted = numbers[rule * TESTS + test];
            switch (signs[rule * TESTS + test]) {
                case '<':
                    return value < wanted;
                case '>':
                    return value > wanted;
                default:
                    return value == wanted;
            }
        }
    }

    private static final class Stage {
        int rows = 4;
        int width = 20;
        final int[] rowOf = new int[CHOIRS];
        final int[] placeOf = new int[CHOIRS];
        private final Choirs choirs;
        private final int[] line = new int[LAID];
        private final int[] bestLine = new int[LAID];
        private int leftSum = 0;
        private int rightSum = 0;

        Stage(Choirs choirs) {
            this.choirs = choirs;
            Arrays.fill(rowOf, NONE);
            Arrays.fill(placeOf, NONE);
        }

        boolean hasRow(int row) {
            return row >= 0 && row < rows;
        }

        boolean holds(int choir) {
            return rowOf[choir] != NONE;
        }

        int blocks() {
            int n = 0;
            for (int choir = 0; choir < choirs.number; choir++) {
                n += holds(choir) ? 1 : 0;
            }
            return n;
        }

        boolean isFree(int row) {
            return hasRoom(row, 0, width);
        }

        boolean hasRoom(int row, int place, int size) {
            if (place + size > width) {
                return false;
            }
            for (int other = 0; other < choirs.number; other++) {
                boolean apart = placeOf[other] >= place + size || placeOf[other] + choirs.size[other] <= place;
                if (rowOf[other] == row && !apart) {
                    return false;
                }
            }
            return true;
        }

        void put(int choir, int row, int place) {
            rowOf[choir] = row;
            placeOf[choir] = place;
        }

        boolean isHidden(int choir) {
            for (int other = 0; other < choirs.number; other++) {
                boolean ahead = holds(other) && rowOf[other] < rowOf[choir];
                if (ahead && choirs.height[other] > choirs.height[choir]) {
                    return true;
                }
            }
            return false;
        }

        int seconds(int place, int size) {
            return Math.min(place, placesRight(place, size)) + size;
        }

        private int placesRight(int place, int size) {
            return width - place - size;
        }

        private void resetDoors() {
            leftSum = 0;
            rightSum = 0;
        }

        private void sendOff(int place, int size) {
            if (place <= placesRight(place, size)) {
                leftSum += seconds(place, size);
            } else {
                rightSum += seconds(place, size);
            }
        }

        int clearOfAll() {
            resetDoors();
            for (int choir = 0; choir < choirs.number; choir++) {
                if (holds(choir)) {
                    sendOff(placeOf[choir], choirs.size[choir]);
                }
            }
            return Math.max(leftSum, rightSum);
        }

        private int clearOfLine(int n) {
            resetDoors();
            int place = 0;
            for (int i = 0; i < n; i++) {
                int size = choirs.size[line[i]];
                sendOff(place, size);
                place += size;
            }
            return Math.max(leftSum, rightSum);
        }

        /** Lines are tried from the least on, so the first of several stays the best. */
        int putBestLine(int row, int set) {
            int n = firstLine(set);
            int least = NEVER;
            boolean more = true;
            for (int tried = 0; tried < 24 && more; tried++) {
                int seconds = clearOfLine(n);
                if (seconds < least) {
                    least = seconds;
                    System.arraycopy(line, 0, bestLine, 0, n);
                }
                more = nextLine(n);
            }
            int place = 0;
            for (int i = 0; i < n; i++) {
                put(bestLine[i], row, place);
                place += choirs.size[bestLine[i]];
            }
            return least;
        }

        private int firstLine(int set) {
            int n = 0;
            for (int choir = 0; choir < choirs.number && n < LAID; choir++) {
                if ((set >> choir & 1) == 1) {
                    line[n] = choir;
                    n++;
                }
            }
            return n;
        }

        /** Makes of the line the next greater one; false if it is the greatest. */
        private boolean nextLine(int n) {
            int i = n - 2;
            while (i >= 0 && line[i] > line[i + 1]) {
                i--;
            }
            if (i < 0) {
                return false;
            }
            int j = n - 1;
            while (j > i + 1 && line[j] < line[i]) {
                j--;
            }
            swapInLine(i, j);
            for (int a = i + 1, b = n - 1; a < b; a++, b--) {
                swapInLine(a, b);
            }
            return true;
        }

        private void swapInLine(int i, int j) {
            int kept = line[i];
            line[i] = line[j];
            line[j] = kept;
        }
    }

    /**
     * THE ORDER. The songs of the set are items 0 .. n - 1 here; rest[sung * SONGS + last] is the
     * least sum of CHANGES still to come when the items of the set "sung" have been sung, "last" last.
     */
    private static final class Program {
        int keptLength = 0;
        final int[] kept = new int[SONGS];
        private int n = 0;
        private final int[] item = new int[SONGS];
        private final int[] singing = new int[SONGS];
        private final int[] cost = new int[SONGS * SONGS];
        /** Made by the first order alone: most festivals ask for none, and it is the largest row. */
        private int[] rest = new int[0];

        void begin() {
            n = 0;
            if (rest.length == 0) {
                rest = new int[(1 << SONGS) * SONGS];
            }
        }

        void add(int song, int choirsThatMay) {
            if (n < SONGS) {
                item[n] = song;
                singing[n] = choirsThatMay;
                n++;
            }
        }

        void price(Choirs choirs) {
            int young = choirs.setOfKind(YOUNG);
            for (int a = 0; a < n; a++) {
                for (int b = 0; b < n; b++) {
                    boolean tires = (singing[a] & young) != 0 && (singing[b] & young) != 0;
                    cost[a * SONGS + b] = tires ? NEVER : choirs.changeOf(singing[a] ^ singing[b]);
                }
            }
        }

        int leastSum() {
            for (int sung = (1 << n) - 1; sung > 0; sung--) {
                for (int last = 0; last < n; last++) {
                    if ((sung >> last & 1) == 1) {
                        rest[sung * SONGS + last] = leastRest(sung, last);
                    }
                }
            }
            int least = NEVER;
            for (int first = 0; first < n; first++) {
                least = Math.min(least, sumWith(0, NONE, first));
            }
            return least;
        }

        private int leastRest(int sung, int last) {
            if (sung == (1 << n) - 1) {
                return 0;
            }
            int least = NEVER;
            for (int next = 0; next < n; next++) {
                if ((sung >> next & 1) == 0) {
                    least = Math.min(least, sumWith(sung, last, next));
                }
            }
            return least;
        }

        /** The sum from "last" on, if "next" comes at once behind it; in front there is no CHANGE. */
        private int sumWith(int sung, int last, int next) {
            int step = last == NONE ? 0 : cost[last * SONGS + next];
            return Math.min(NEVER, step + rest[(sung | 1 << next) * SONGS + next]);
        }

        /** Takes at each place the least item that still reaches the least sum. */
        void keepOrder(int leastSum) {
            int sung = 0;
            int last = NONE;
            int left = leastSum;
            for (int place = 0; place < n; place++) {
                int next = leastNext(sung, last, left);
                kept[place] = item[next];
                sung |= 1 << next;
                last = next;
                left = rest[sung * SONGS + last];
            }
            keptLength = n;
        }

        private int leastNext(int sung, int last, int left) {
            for (int next = 0; next < n; next++) {
                if ((sung >> next & 1) == 0 && sumWith(sung, last, next) == left) {
                    return next;
                }
            }
            return 0;
        }
    }

    private static final class Halls {
        private final int[] songAt = new int[HALLS * HOURS];
        private final int[] choirsAt = new int[HALLS * HOURS];

        Halls() {
            Arrays.fill(songAt, NONE);
        }

        boolean has(int hall, int hour) {
            return hall >= 0 && hall < HALLS && hour >= 0 && hour < HOURS;
        }

        int songIn(int hall, int hour) {
            return songAt[hall * HOURS + hour];
        }

        boolean isFree(int hall, int hour) {
            return songIn(hall, hour) == NONE;
        }

        int busyAt(int hour) {
            int set = 0;
            for (int hall = 0; hall < HALLS; hall++) {
                set |= choirsAt[hall * HOURS + hour];
            }
            return set;
        }

        void take(int hall, int hour, int song, int set) {
            songAt[hall * HOURS + hour] = song;
            choirsAt[hall * HOURS + hour] = set;
        }
    }

    private static final class Lodging {
        final int[] bedsOf = new int[TOWNS];
        final int[] townOf = new int[CHOIRS];
        private final Choirs choirs;

        Lodging(Choirs choirs) {
            this.choirs = choirs;
            Arrays.fill(townOf, NONE);
        }

        int taken(int town) {
            int sum = 0;
            for (int choir = 0; choir < choirs.number; choir++) {
                if (townOf[choir] == town) {
                    sum += choirs.size[choir];
                }
            }
            return sum;
        }

        private int freeBeds(int town) {
            return bedsOf[town] - taken(town);
        }

        /** A CHOIR does not stand in its own way: the BEDS that it has there are free for it. */
        private int bedsFor(int choir, int town) {
            int own = townOf[choir] == town ? choirs.size[choir] : 0;
            return freeBeds(town) + own;
        }

        boolean canTake(int town, int choir) {
            return town != choirs.town[choir] && bedsFor(choir, town) >= choirs.size[choir];
        }

        int tightestTown(int choir) {
            int tightest = NONE;
            for (int town = 0; town < TOWNS; town++) {
                boolean tighter = tightest == NONE || freeBeds(town) < freeBeds(tightest);
                if (tighter && canTake(town, choir)) {
                    tightest = town;
                }
            }
            return tightest;
        }

        int sleepers() {
            int n = 0;
            for (int choir = 0; choir < choirs.number; choir++) {
                n += townOf[choir] != NONE ? 1 : 0;
            }
            return n;
        }
    }

    /** No call asks who goes where in THE MARCH, so the set of its CHOIRS tells all. */
    private static final class March {
        int space = 2;
        private int set = 0;
        private final Choirs choirs;

        March(Choirs choirs) {
            this.choirs = choirs;
        }

        boolean holds(int choir) {
            return (set >> choir & 1) == 1;
        }

        void add(int choir) {
            set |= 1 << choir;
        }

        void remove(int choir) {
            set &= ~(1 << choir);
        }

        int number() {
            return Integer.bitCount(set);
        }

        int length() {
            int sum = 0;
            for (int choir = 0; choir < choirs.number; choir++) {
                sum += holds(choir) ? portions(choirs.size[choir], 4) : 0;
            }
            return sum + space * Math.max(0, number() - 1);
        }
    }
}
