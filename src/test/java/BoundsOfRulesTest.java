/** The edges that promises 11 to 16 and the document's section 2 name: the tape, rules, conductors. */
public final class BoundsOfRulesTest {
    private static final int NONE = -1, BAD = -2, FULL = -4, NO_SUCH = -5;
    private static final int LEAST = Integer.MIN_VALUE, MOST = Integer.MAX_VALUE;
    /** None is longer: two TESTS of the longest FIELDS and numbers. */
    private static final String LONGEST = "bar * if mark>100 and hard<999";
    private static final Bounds b = new Bounds(11, 16);

    public static void main(String[] args) {
        feedNumber();
        feedBytes();
        feedFull();
        ruleFull();
        ruleEmptiesTape();
        ruleVerb();
        ruleBlank();
        ruleKind();
        ruleIfAnd();
        ruleField();
        ruleSign();
        ruleDigits();
        ruleEndsTooEarly();
        ruleTooLong();
        mayNone();
        mayNotThere();
        mayKind();
        mayVoice();
        mayRule();
        ruleOfKind();
        testOfMark();
        testOfHard();
        testOfTown();
        testOfSize();
        testOfDay();
        twoTests();
        eachFieldBehindEach();
        why();
        vote();
        voteStays();
        leaderNone();
        leaderEachTen();
        leaderLeast();
        leaderOfThoseThatMay();
        b.end();
    }

    /** So many bytes on THE TAPE, none of which begins a RULE. */
    private static Festival.Scene tape(int n) {
        return x -> {
            for (int i = 0; i < n / 8; i++) {
                x.feed(-1L, 8);
            }
            if (n % 8 > 0) {
                x.feed(-1L, n % 8);
            }
        };
    }

    private static void feedNumber() {
        b.sentence(11, "BAD: n not 1 .. 8");
        b.edges(Festival.EMPTY, (x, n) -> x.feed(0, n), new int[] {1, 8}, new int[] {1, 8}, BAD);
        b.edges(Festival.RICH, (x, n) -> x.feed(-1L, n), new int[] {1, 8}, new int[] {16, 23}, BAD);
    }

    /** Feeds what is told of a RULE in one call; the rest is on THE TAPE already. */
    private static void feeds(String ahead, long w, int n, int length, int rule) {
        Festival.Scene scene = x -> Festival.feedText(x, ahead);
        b.then(scene, x -> x.feed(w, n), length, x -> x.rule(), rule);
    }

    private static void feedBytes() {
        b.sentence(11, "The n lowest bytes of w, the highest first, come behind THE TAPE's");
        feeds("let ", '0', 1, 5, 0);
        feeds("let ", 0x7f7f7f7f7f7f7f00L + '5', 1, 5, 0);
        feeds("let ", -256L + '*', 1, 5, 0);
        feeds("let", 0x202a, 2, 5, 0);
        feeds("let", 0x2a20, 2, 5, -13);
        feeds("", 0x6c6574202aL, 5, 5, 0);
        feeds("", 0xffffff6c6574202aL, 5, 5, 0);
        feeds("let * if", 0x206461793d303030L, 8, 16, 0);
        feeds("", 0x8000000000000000L, 8, 8, -10);
        feeds("let *", 0, 1, 6, -15);
        feeds("let *", 0x80, 1, 6, -15);
        feeds("", 0xec, 1, 1, -10);
    }

    private static void feedFull() {
        b.sentence(11, "THE TAPE (bytes, 120 at most)");
        b.then(tape(119), x -> x.feed(0, 1), 120, x -> x.count(8), 120);
        b.answers(tape(112), x -> x.feed(0, 8), 120);
        b.answers(tape(113), x -> x.feed(0, 7), 120);
        b.refuses(tape(113), x -> x.feed(0, 8), FULL);
        b.refuses(tape(119), x -> x.feed(0, 2), FULL);
        b.refuses(tape(119), x -> x.feed(0, 8), FULL);
        b.refuses(tape(120), x -> x.feed(0, 1), FULL);
        b.refuses(tape(120), x -> x.feed(0, 8), FULL);
        b.sentence(11, "BAD: n not 1 .. 8; FULL");
        b.refuses(tape(120), x -> x.feed(0, 0), BAD);
        b.refuses(tape(120), x -> x.feed(0, 9), BAD);
        b.refuses(tape(120), x -> x.feed(0, MOST), BAD);
        b.refuses(tape(120), x -> x.feed(0, LEAST), BAD);
        b.answers(tape(120).and(x -> x.rule()), x -> x.feed(0, 8), 8);
    }

    private static void ruleFull() {
        b.sentence(12, "RULES are numbered from 0 on, 12 at most");
        b.answers(Festival.EMPTY, x -> Festival.rule(x, "let *"), 0);
        Festival.Scene eleven = Festival.choirs(1).and(Festival.songs(1)).and(Festival.rules("let *", "bar 0", "let 1",
                "let 2", "let 3", "let 4", "let 5", "let 1", "let 2", "let 3", "let 4"));
        b.then(eleven, x -> Festival.rule(x, "let 0"), 11, x -> x.why(0, 0), 11);
        b.then(eleven, x -> Festival.rule(x, "let 6"), -14, x -> x.count(3), 11);
        Festival.Scene twelve = eleven.and(Festival.rules("let 5"));
        b.sentence(12, "FULL");
        b.refuses(twelve, x -> x.rule(), FULL);
        String[] tapes = {"let *", "bar 0 if day=0", "x", "let", LONGEST};
        for (String text : tapes) {
            b.refuses(twelve.and(x -> Festival.feedText(x, text)), x -> x.rule(), FULL);
        }
        b.refuses(Festival.FULL.and(tape(120)), x -> x.rule(), FULL);
    }

    private static void ruleEmptiesTape() {
        b.sentence(12, "THE TAPE, which is empty then, is a RULE: its number");
        b.then(Festival.EMPTY, x -> Festival.rule(x, "let *"), 0, x -> x.count(8), 0);
        b.then(Festival.rules("let *"), x -> x.rule(), -10, x -> x.count(3), 1);
        b.sentence(12, "-10 less the FAULT (THE TAPE is empty then, too)");
        b.then(Festival.EMPTY, x -> Festival.rule(x, "let x"), -14, x -> x.count(8), 0);
        b.then(Festival.rules("let x"), x -> Festival.rule(x, "let *"), 0, x -> x.count(3), 1);
        b.then(tape(120), x -> x.rule(), -10, x -> x.count(8), 0);
    }

    /** Each text is a RULE. */
    private static void right(String... texts) {
        for (String text : texts) {
            b.then(Festival.EMPTY, x -> Festival.rule(x, text), 0, x -> x.count(3), 1);
        }
    }

    /** The sign | stands ahead of the byte that is the FAULT, or at the end; there is no RULE then. */
    private static void faults(String... texts) {
        for (String one : texts) {
            String text = one.replace("|", "");
            b.then(Festival.EMPTY, x -> Festival.rule(x, text), -10 - one.indexOf('|'), x -> x.count(3), 0);
        }
    }

    private static void ruleVerb() {
        b.sentence(12, "let or bar");
        right("let *", "bar *");
        faults("|met *", "|ket *", "l|dt *", "l|ft *", "le|s *", "le|u *", "|aar *", "|car *", "b|br *", "ba|q *",
                "ba|s *", "l|ar *", "b|et *", "|Let *", "|BAR *", "|*", "| let *");
    }

    private static void ruleBlank() {
        b.sentence(12, "a blank, KIND");
        faults("let|*", "let|!*", "let|\t*", "let|" + (char) 31 + "*", "let | *", "bar|0", "bar|_0");
    }

    private static void ruleKind() {
        b.sentence(12, "KIND (a digit 0 .. 5, or *)");
        right("let 0", "let 5", "bar 0", "bar 5", "bar *");
        faults("let |/", "let |6", "let |9", "let |)", "let |+", "let |-1", "let 0|0", "let 5|*", "let *|*", "let *|5");
    }

    private static void ruleIfAnd() {
        b.sentence(12, "perhaps: a blank, if, a blank, TEST");
        right("let 0", "let 0 if day=1");
        faults("let 0|if day=1", "let 0 | if day=1", "let 0 |If day=1", "let 0 i|s day=1", "let 0 if|day=1",
                "let 0 if | day=1", "let 0|!if day=1", "let 0 |and day=1", "let 0 if |and day=1");
        b.sentence(12, "or TEST and TEST (a blank, and, a blank between)");
        right("let 0 if day=1 and day=1");
        faults("let 0 if day=1|and day=1", "let 0 if day=1 | and day=1", "let 0 if day=1 |or day=1",
                "let 0 if day=1 a|md day=1", "let 0 if day=1 an|e day=1", "let 0 if day=1 and|day=1",
                "let 0 if day=1 and | day=1", "let 0 if day=1 |if day=1", "let 0 if day=1 |");
    }

    private static void ruleField() {
        b.sentence(12, "FIELD: mark hard town size day");
        String[] fields = {"mark", "hard", "town", "size", "day"};
        for (String field : fields) {
            right("let * if " + field + "=1", "let * if day=1 and " + field + "=1");
            faults("let * if |" + field.toUpperCase() + "=1", "let * if day=1 and |" + field.toUpperCase() + "=1",
                    "let * if " + field + "|s=1", "let * if day=1 and " + field + "|s=1");
            for (int cut = 1; cut < field.length(); cut++) {
                String head = field.substring(0, cut);
                faults("let * if " + head + "|=1", "let * if day=1 and " + head + "|=1");
            }
        }
        faults("let * if |kind=1", "let * if |voice=1", "let * if |=1", "let * if |5=1", "let * if m|ood=1");
    }

    private static void ruleSign() {
        b.sentence(12, "one of = < >");
        right("let * if day=1", "let * if day<1", "let * if day>1");
        faults("let * if day|;1", "let * if day|?1", "let * if day|1", "let * if day|!1", "let * if day=|=1",
                "let * if day<|=1", "let * if day>|=1", "let * if day=1 and day|;1", "let * if day=1 and day|?1");
        b.sentence(12, "without blanks");
        faults("let * if day| =1", "let * if day=| 1", "let * if day=1 and day| =1", "let * if day=1 and day=| 1");
    }

    private static void ruleDigits() {
        b.sentence(12, "a number of 1 to 3 digits");
        right("let * if day=0", "let * if day=9", "let * if day=12", "let * if day=000", "let * if day=999",
                "let * if day=0 and day=9", "let * if day=000 and day=999", "let * if day=12 and day=12");
        faults("let * if day=|", "let * if day=|/", "let * if day=|:", "let * if day=|-1", "let * if day=|x",
                "let * if day=1|:", "let * if day=12|/", "let * if day=123|4", "let * if day=000|0",
                "let * if day=| and day=1", "let * if day=123|4 and day=1",
                "let * if day=1 and day=|", "let * if day=1 and day=123|4", "let * if day=1 and day=1|x");
    }

    private static void ruleEndsTooEarly() {
        b.sentence(12, "The FAULT is .. (the end of THE TAPE, if it ends too early)");
        // A RULE ends behind its KIND and behind each digit of a number.
        String whole = "let * if mark>59 and hard<4";
        for (int cut = 0; cut <= whole.length(); cut++) {
            String head = whole.substring(0, cut);
            boolean ends = cut == 5 || cut == 15 || cut == 16 || cut == 27;
            if (ends) {
                right(head);
            } else {
                faults(head + "|");
            }
        }
    }

    private static void ruleTooLong() {
        b.sentence(12, "the place of the first byte with which none begins so");
        right(LONGEST);
        faults(LONGEST + "| ", LONGEST + "|0", LONGEST + "| and day=1", LONGEST + "|\0", "let *|\0",
                "|" + (char) 236 + "et *", LONGEST + "|" + "x".repeat(90), "let *|" + "*".repeat(115),
                "|" + "x".repeat(120));
    }

    private static void mayNone() {
        b.sentence(13, "MAY: 0 .. 4. NONE");
        b.range(Festival.RICH, (x, choir) -> x.may(choir, 0), 0, 7, 0, NONE);
        b.edges(Festival.RICH, (x, song) -> x.may(4, song), new int[] {0, 3}, new int[] {0, 0}, NONE);
        b.range(Festival.FULL, (x, choir) -> x.may(choir, 8), 0, 15, 0, NONE);
        b.range(Festival.FULL, (x, song) -> x.may(15, song), 0, 8, 0, NONE);
        b.answers(Festival.RICH, x -> x.may(5, 0), 1);
        b.answers(Festival.RICH, x -> x.may(7, 2), 2);
        b.answers(Festival.RICH, x -> x.may(2, 0), 3);
        b.answers(Festival.RICH, x -> x.may(1, 0), 4);
    }

    private static void mayNotThere() {
        b.sentence(13, "1 it is not there");
        Festival.Scene far = x -> {
            x.choir(4, 0, 1, 2);
            x.choir(0, 0, 1, 0);
            x.choir(5, 0, 0, 16);
            x.song(63, 8, 0, 1);
            x.song(1, 7, 0, 1);
        };
        for (int today = 0; today <= 3; today++) {
            int now = today;
            for (int choir = 0; choir <= 2; choir += 2) {
                int asked = choir;
                b.answers(far.and(x -> x.day(now)), x -> x.may(asked, 0), today < 2 ? 1 : 0);
                b.answers(far.and(x -> x.day(now)), x -> x.may(asked, 1), today < 2 ? 1 : 2);
            }
        }
        b.answers(far.and(Festival.rules("bar *")), x -> x.may(0, 0), 1);
    }

    private static void mayKind() {
        b.sentence(13, "2 its KIND is not one of the SONG's");
        Festival.Scene kinds = x -> {
            x.choir(0, 0, 1000001, 0);
            x.choir(1, 0, 1, 0);
            x.choir(2, 0, 1000000, 0);
            x.choir(3, 0, 1000001, 0);
            x.choir(4, 0, 1000001, 0);
            x.choir(5, 0, 0, 1);
        };
        for (int kind = 0; kind <= 5; kind++) {
            int choir = kind;
            int voice = kind == 1 ? 8 : 1;
            b.answers(kinds.and(x -> x.song(1 << choir, voice, 0, 1)), x -> x.may(choir, 0), 0);
            b.answers(kinds.and(x -> x.song(63 - (1 << choir), voice, 0, 1)), x -> x.may(choir, 0), 2);
            b.answers(kinds.and(x -> x.song(63 - (1 << choir), 15, 0, 1)), x -> x.may(choir, 0), 2);
        }
        b.answers(kinds.and(x -> x.song(2, 8, 0, 1)).and(Festival.rules("bar *")), x -> x.may(0, 0), 2);
    }

    private static void mayVoice() {
        b.sentence(13, "3 a VOICE that it wants has no SINGER");
        int[] one = {1000000, 10000, 100, 1};
        for (int v = 0; v < 4; v++) {
            for (int wanted = 1; wanted <= 15; wanted++) {
                int singers = one[v];
                int voices = wanted;
                Festival.Scene scene = x -> {
                    x.choir(0, 0, singers, 0);
                    x.song(1, voices, 0, 1);
                };
                b.answers(scene, x -> x.may(0, 0), wanted == 1 << v ? 0 : 3);
                b.answers(scene.and(Festival.rules("bar *")), x -> x.may(0, 0), wanted == 1 << v ? 4 : 3);
            }
        }
        b.answers(x -> x.choir(0, 0, 1010101, 0), x -> x.song(1, 15, 0, 1) + x.may(0, 0), 0);
    }

    private static void mayRule() {
        Festival.Scene one = Festival.choirs(1).and(Festival.songs(1));
        b.sentence(13, "4 the RULE of the greatest number that HOLDS bars it");
        b.answers(one.and(Festival.rules("bar *")), x -> x.may(0, 0), 4);
        b.answers(one.and(Festival.rules("bar *", "let *")), x -> x.may(0, 0), 0);
        b.answers(one.and(Festival.rules("let *", "bar *")), x -> x.may(0, 0), 4);
        b.answers(one.and(Festival.rules("bar *", "let 1")), x -> x.may(0, 0), 4);
        b.answers(one.and(Festival.rules("let *", "bar 1")), x -> x.may(0, 0), 0);
        String[] twelve = {"let *", "bar *", "let *", "let *", "let *", "let *", "let *", "let *", "let *", "let *",
            "let *", "bar *"};
        b.answers(one.and(Festival.rules(twelve)), x -> x.may(0, 0), 4);
        b.sentence(13, "(Without a RULE that HOLDS it may.)");
        b.answers(one, x -> x.may(0, 0), 0);
        b.answers(one.and(Festival.rules("bar 1")), x -> x.may(0, 0), 0);
        b.answers(one.and(Festival.rules("bar * if day>0")), x -> x.may(0, 0), 0);
    }

    private static void ruleOfKind() {
        b.sentence(14, "A RULE HOLDS .. if KIND is * or the CHOIR's");
        Festival.Scene kinds = x -> {
            x.choir(0, 0, 1, 0);
            x.choir(1, 0, 1, 0);
            x.choir(2, 0, 10000, 0);
            x.choir(3, 0, 1, 0);
            x.choir(4, 0, 1, 0);
            x.choir(5, 0, 0, 1);
            x.song(63, 8, 0, 1);
        };
        for (int kind = 0; kind <= 5; kind++) {
            for (int choir = 0; choir <= 5; choir++) {
                int asked = choir;
                b.answers(kinds.and(Festival.rules("let " + kind)), x -> x.why(asked, 0), kind == choir ? 0 : NONE);
            }
            int asked = kind;
            b.answers(kinds.and(Festival.rules("let *")), x -> x.why(asked, 0), 0);
        }
    }

    /** At the number just one of = < > holds; beside it another one. */
    private static void comparisons(Festival.Scene scene, String field, int value) {
        String signs = "<=>";
        for (int number = Math.max(0, value - 1); number <= Math.min(999, value + 1); number++) {
            for (int i = 0; i < 3; i++) {
                boolean holds = Integer.signum(value - number) == i - 1;
                String text = "bar * if " + field + signs.charAt(i) + number;
                b.answers(scene.and(Festival.rules(text)), x -> x.why(0, 0), holds ? 0 : NONE);
                b.answers(scene.and(Festival.rules(text)), x -> x.may(0, 0), holds ? 4 : 0);
            }
        }
    }

    private static void testOfMark() {
        b.sentence(14, "mark: MEAN (0 without MARKS)");
        Festival.Scene judged = Festival.choirs(1).and(Festival.songs(1)).and(x -> x.judge(1)).and(x -> x.judge(2));
        comparisons(judged, "mark", 0);
        int[] marks = {0, 1, 59, 60, 99, 100};
        for (int mark : marks) {
            comparisons(judged.and(x -> x.mark(0, 0, mark)), "mark", mark);
        }
        comparisons(judged.and(x -> x.mark(0, 0, 60)).and(x -> x.mark(1, 0, 59)), "mark", 59);
        comparisons(judged.and(x -> x.mark(0, 0, 60)).and(x -> x.mark(0, 0, 59)), "mark", 59);
    }

    private static void testOfHard() {
        b.sentence(14, "hard: HARDNESS");
        int[] all = {0, 1, 8, 9};
        for (int hardness : all) {
            comparisons(Festival.choirs(1).and(x -> x.song(1, 8, hardness, 1)), "hard", hardness);
        }
    }

    private static void testOfTown() {
        b.sentence(14, "town: TOWN");
        int[] all = {0, 1, 6, 7};
        for (int town : all) {
            comparisons(Festival.songs(1).and(x -> x.choir(0, town, 1, 0)), "town", town);
        }
    }

    private static void testOfSize() {
        b.sentence(14, "size: all SINGERS");
        comparisons(Festival.songs(1).and(Festival.choirs(1)), "size", 1);
        comparisons(Festival.songs(1).and(Festival.choirs(99)), "size", 99);
        comparisons(Festival.songs(1).and(x -> x.choir(0, 0, 10101, 0)), "size", 3);
        comparisons(Festival.songs(1).and(x -> x.choir(0, 0, 99999999, 0)), "size", 396);
        Festival.Scene joint = Festival.songs(1).and(x -> {
            x.choir(0, 0, 99999999, 0);
            x.choir(0, 0, 99999999, 0);
            x.choir(5, 0, 0, 1);
        });
        b.answers(joint.and(Festival.rules("let * if size>791")), x -> x.why(2, 0), 0);
        b.answers(joint.and(Festival.rules("let * if size>792")), x -> x.why(2, 0), NONE);
        b.answers(joint.and(Festival.rules("let * if size<999")), x -> x.why(2, 0), 0);
        b.answers(joint.and(Festival.rules("let * if size=792")), x -> x.why(2, 0), 0);
    }

    private static void testOfDay() {
        b.sentence(14, "day: TODAY");
        for (int today = 0; today <= 3; today++) {
            int now = today;
            comparisons(Festival.choirs(1).and(Festival.songs(1)).and(x -> x.day(now)), "day", today);
        }
        Festival.Scene ahead = Festival.choirs(1).and(Festival.songs(1)).and(Festival.rules("bar * if day=1"));
        b.answers(ahead, x -> x.may(0, 0), 0);
        b.answers(ahead.and(x -> x.day(1)), x -> x.may(0, 0), 4);
        b.answers(ahead.and(x -> x.day(2)), x -> x.may(0, 0), 0);
    }

    private static void twoTests() {
        b.sentence(14, "and all TESTS hold");
        Festival.Scene one = Festival.choirs(12).and(Festival.songs(1));
        b.answers(one.and(Festival.rules("let * if size=12 and day=0")), x -> x.why(0, 0), 0);
        b.answers(one.and(Festival.rules("let * if size=13 and day=0")), x -> x.why(0, 0), NONE);
        b.answers(one.and(Festival.rules("let * if size=12 and day=1")), x -> x.why(0, 0), NONE);
        b.answers(one.and(Festival.rules("let * if size=13 and day=1")), x -> x.why(0, 0), NONE);
        b.answers(one.and(Festival.rules("let 1 if size=12 and day=0")), x -> x.why(0, 0), NONE);
        b.answers(one.and(Festival.rules("let * if size>11 and size<13")), x -> x.why(0, 0), 0);
        b.answers(one.and(Festival.rules("let * if size=12 and size=1", "let *")), x -> x.why(0, 0), 1);
    }

    private static void eachFieldBehindEach() {
        b.sentence(14, "mark .. hard .. town .. size .. day: each behind a RULE of another one");
        Festival.Scene unlike = x -> {
            x.choir(0, 3, 4, 0);
            x.song(1, 8, 5, 1);
            x.judge(0);
            x.mark(0, 0, 2);
            x.day(1);
        };
        String[] fields = {"mark", "hard", "town", "size", "day"};
        int[] values = {2, 5, 3, 4, 1};
        for (int i = 0; i < 5; i++) {
            for (int k = 0; k < 5; k++) {
                String ahead = "let 5 if " + fields[i] + "=0 and " + fields[i] + "=0";
                String last = fields[k] + "=" + values[k];
                b.answers(unlike.and(Festival.rules(ahead, "bar 0 if " + last)), x -> x.why(0, 0), 1);
                b.answers(unlike.and(Festival.rules(ahead, "bar 0 if day=1 and " + last)), x -> x.why(0, 0), 1);
            }
        }
    }

    private static void why() {
        b.sentence(14, "The RULE of the greatest number that HOLDS. NONE: none, too");
        b.edges(Festival.RICH, (x, choir) -> x.why(choir, 1), new int[] {0, 7}, new int[] {1, 1}, NONE);
        b.edges(Festival.RICH, (x, song) -> x.why(3, song), new int[] {0, 3}, new int[] {NONE, 2}, NONE);
        b.range(Festival.FULL, (x, choir) -> x.why(choir, 8), 0, 15, 11, NONE);
        b.range(Festival.FULL, (x, song) -> x.why(15, song), 0, 8, 11, NONE);
        Festival.Scene one = Festival.choirs(1).and(Festival.songs(1));
        b.refuses(one, x -> x.why(0, 0), NONE);
        b.refuses(one.and(Festival.rules("let 1", "bar 2")), x -> x.why(0, 0), NONE);
        b.answers(one.and(Festival.rules("let *", "bar 2")), x -> x.why(0, 0), 0);
        b.answers(one.and(Festival.rules("let *", "bar *", "let 0", "let 5")), x -> x.why(0, 0), 2);
    }

    private static void vote() {
        b.sentence(15, "CONDUCTORS 0 .. 7 (-1: none) .. -5: there is none such");
        b.range(Festival.RICH, (x, conductor) -> x.vote(0, conductor), -1, 7, 3, NO_SUCH);
        b.edges(Festival.RICH, (x, choir) -> x.vote(choir, 1), new int[] {0, 7}, new int[] {3, 0}, NO_SUCH);
        b.range(Festival.FULL, (x, choir) -> x.vote(choir, 1), 0, 15, NONE, NO_SUCH);
        b.refuses(Festival.EMPTY, x -> x.vote(0, 0), NO_SUCH);
        b.refuses(Festival.RICH, x -> x.vote(8, -1), NO_SUCH);
        b.refuses(Festival.RICH, x -> x.vote(8, 8), NO_SUCH);
    }

    private static void voteStays() {
        b.sentence(15, "for whom it did (NONE)");
        b.then(Festival.choirs(1), x -> x.vote(0, 0), NONE, x -> x.vote(0, 7), 0);
        b.then(Festival.choirs(1), x -> x.vote(0, 7), NONE, x -> x.vote(0, -1), 7);
        b.then(Festival.choirs(1), x -> x.vote(0, -1), NONE, x -> x.vote(0, 0), NONE);
        b.then(Festival.choirs(1), x -> x.vote(0, 4), NONE, x -> x.vote(0, 4), 4);
    }

    private static void leaderNone() {
        b.sentence(16, "NONE: no votes, too");
        // Of those that may sing SONGS 2 and 3 none votes.
        b.range(Festival.RICH, (x, song) -> x.leader(song), 0, 1, 0, NONE);
        b.refuses(Festival.RICH, x -> x.leader(3), NONE);
        b.refuses(Festival.RICH, x -> x.leader(4), NONE);
        Festival.Scene full = Festival.FULL.and(x -> x.vote(15, 7));
        b.range(full, (x, song) -> x.leader(song), 0, 8, 7, NONE);
        b.refuses(full.and(x -> x.vote(15, -1)), x -> x.leader(8), NONE);
        b.refuses(Festival.songs(1), x -> x.leader(0), NONE);
        b.answers(Festival.songs(1).and(Festival.choirs(1)).and(x -> x.vote(0, 0)), x -> x.leader(0), 0);
    }

    /** The first CHOIR votes for 7, the second for 0: 7 leads if it has more votes, not if as many. */
    private static void sevenLeads(int first, int second, boolean leads) {
        Festival.Scene scene = Festival.choirs(first, second).and(Festival.songs(1)).and(x -> {
            x.vote(0, 7);
            x.vote(1, 0);
        });
        b.answers(scene, x -> x.leader(0), leads ? 7 : 0);
    }

    private static void leaderEachTen() {
        b.sentence(16, "with 1 for each 10 SINGERS, up");
        sevenLeads(10, 1, false);
        sevenLeads(11, 1, true);
        sevenLeads(11, 10, true);
        sevenLeads(20, 11, false);
        sevenLeads(21, 20, true);
        sevenLeads(99, 91, false);
        sevenLeads(91, 90, true);
        Festival.Scene together = Festival.choirs(1, 1, 20).and(Festival.songs(1)).and(x -> {
            x.vote(0, 3);
            x.vote(1, 3);
            x.vote(2, 4);
        });
        b.answers(together, x -> x.leader(0), 3);
        b.answers(together.and(x -> x.vote(1, -1)), x -> x.leader(0), 4);
    }

    private static void leaderLeast() {
        b.sentence(16, "the one with most, the least of several");
        Festival.Scene eight = Festival.choirs(10, 10, 10, 10, 10, 10, 10, 10).and(Festival.songs(1)).and(x -> {
            for (int choir = 0; choir < 8; choir++) {
                x.vote(choir, 7 - choir);
            }
        });
        b.answers(eight, x -> x.leader(0), 0);
        b.answers(eight.and(x -> x.vote(7, -1)), x -> x.leader(0), 1);
        b.answers(eight.and(x -> x.vote(7, 7)), x -> x.leader(0), 7);
    }

    private static void leaderOfThoseThatMay() {
        b.sentence(16, "each CHOIR that is there votes");
        Festival.Scene far = Festival.choirs(1).and(Festival.songs(1)).and(x -> {
            x.choir(4, 0, 99, 2);
            x.vote(0, 5);
            x.vote(1, 1);
        });
        b.answers(far.and(x -> x.day(1)), x -> x.leader(0), 5);
        b.answers(far.and(x -> x.day(2)), x -> x.leader(0), 1);
        b.sentence(16, "of votes of CHOIRS that MAY sing it");
        b.answers(far.and(x -> x.day(2)).and(Festival.rules("bar 4")), x -> x.leader(0), 5);
        b.answers(far.and(x -> x.day(2)).and(Festival.rules("bar *")), x -> x.leader(0), NONE);
        b.answers(far.and(x -> x.day(2)).and(x -> x.song(1, 8, 0, 1)), x -> x.leader(1), 5);
        b.answers(far.and(x -> x.day(2)).and(x -> x.song(63, 1, 0, 1)), x -> x.leader(1), NONE);
    }
}
