/** The edges that promises 1 to 10 and the document's section 1 name: choirs, songs, judges. */
public final class BoundsOfChoirsTest {
    private static final int NONE = -1, BAD = -2, STATE = -3, FULL = -4, NO_SUCH = -5, NO_SCALE = -200;
    private static final int LEAST = Integer.MIN_VALUE, MOST = Integer.MAX_VALUE;
    private static final Bounds b = new Bounds(1, 10);

    public static void main(String[] args) {
        newObject();
        newStage();
        lastCall();
        choirTown();
        choirKind();
        choirSingers();
        menAndWomen();
        far();
        otherX();
        choirFull();
        jointParts();
        jointUnlike();
        jointVoices();
        jointTown();
        jointIsThere();
        choirOrderOfRefusals();
        dayRange();
        dayNotLess();
        songNumbers();
        songFull();
        judgeTown();
        judgeFull();
        markNumbers();
        markOfOwnTown();
        markNewer();
        markOrderOfRefusals();
        mean();
        meanCut();
        scaleOfNone();
        scaleCut();
        about();
        aboutNone();
        voice();
        b.end();
    }

    private static void newObject() {
        b.sentence(1, "Nothing is there");
        for (int what = 0; what <= 10; what++) {
            int asked = what;
            b.answers(Festival.EMPTY, x -> x.count(asked), 0);
        }
        b.refuses(Festival.EMPTY, x -> x.about(0, 0), NONE);
        b.refuses(Festival.EMPTY, x -> x.voice(0, 0), NONE);
        b.refuses(Festival.EMPTY, x -> x.mean(0), NONE);
        b.refuses(Festival.EMPTY, x -> x.mark(0, 0, 0), NO_SUCH);
        b.refuses(Festival.EMPTY, x -> x.scale(0, 1), NO_SCALE);
        b.refuses(Festival.EMPTY, x -> x.may(0, 0), NONE);
        b.refuses(Festival.EMPTY, x -> x.leader(0), NONE);
        b.refuses(Festival.EMPTY, x -> x.order(1), BAD);
        b.refuses(Festival.EMPTY, x -> x.ordered(0), NONE);
        b.refuses(Festival.EMPTY, x -> x.hall(0, 0), NONE);
        b.refuses(Festival.EMPTY, x -> x.bed(1), BAD);
        b.answers(Festival.EMPTY, x -> x.clear(), 0);
        b.answers(Festival.EMPTY, x -> x.rule(), -10);
        b.answers(Festival.EMPTY, x -> x.beds(7, 1), 0);
    }

    private static void newStage() {
        b.sentence(1, "THE STAGE has 4 rows of 20");
        b.range(Festival.choirs(1), (x, row) -> x.stand(0, row, 0), 0, 3, 0, NONE);
        b.range(Festival.choirs(1), (x, place) -> x.stand(0, 0, place), 0, 19, 0, NONE);
        b.answers(Festival.choirs(20), x -> x.stand(0, 3, 0), 0);
        b.refuses(Festival.choirs(21), x -> x.stand(0, 3, 0), STATE);
    }

    private static void lastCall() {
        b.sentence(1, "An object is used for at most 512 calls");
        Festival.Scene all = Festival.FULL.and(x -> {
            // 55 calls were made: 16 CHOIRS, 9 SONGS, 6 JUDGES, and two for each of 12 RULES
            for (int call = 55; call < 511; call++) {
                x.order(511);
            }
        });
        b.answers(all, x -> x.order(511), 0);
        b.answers(all, x -> x.ordered(8), 8);
        b.answers(all, x -> x.feed(1, 1), 1);
    }

    private static void choirTown() {
        b.sentence(2, "of a TOWN (0 .. 7)");
        for (int kind = 0; kind <= 4; kind++) {
            int told = kind;
            int singers = kind == 2 ? 10000 : 1;
            b.range(Festival.EMPTY, (x, town) -> x.choir(told, town, singers, 0), 0, 7, 0, NONE);
        }
        b.range(Festival.RICH, (x, town) -> x.choir(0, town, 1, 0), 0, 7, 8, NONE);
    }

    private static void choirKind() {
        b.sentence(2, "each of a KIND: 0 MIXED .. 5 JOINT");
        b.answers(Festival.RICH, x -> x.choir(0, 0, 1, 0), 8);
        b.answers(Festival.RICH, x -> x.choir(5, 0, 0, 1), 8);
        int[] outside = {-1, 6, LEAST, MOST};
        for (int kind : outside) {
            b.refuses(Festival.RICH, x -> x.choir(kind, 0, 1, 0), BAD);
            b.refuses(Festival.RICH, x -> x.choir(kind, 0, 0, 1), BAD);
        }
    }

    private static void choirSingers() {
        b.sentence(2, "as many SINGERS of each of four VOICES as told (0 .. 99, not all 0)");
        int[] kindsOfAllVoices = {0, 3, 4};
        for (int kind : kindsOfAllVoices) {
            b.range(Festival.RICH, (x, singers) -> x.choir(kind, 0, singers, 0), 1, 99999999, 8, BAD);
        }
        b.sentence(2, "SINGERS of VOICES 0 .. 3 as digits to the base 100, VOICE 0 the highest");
        int[] told = {99, 100, 9999, 10000, 999999, 1000000, 99000000, 99999999};
        int[][] due = {
            {0, 0, 0, 99}, {0, 0, 1, 0}, {0, 0, 99, 99}, {0, 1, 0, 0}, {0, 99, 99, 99}, {1, 0, 0, 0},
            {99, 0, 0, 0}, {99, 99, 99, 99},
        };
        for (int i = 0; i < told.length; i++) {
            int singers = told[i];
            for (int v = 0; v < 4; v++) {
                int asked = v;
                b.answers(x -> x.choir(0, 0, singers, 0), x -> x.voice(0, asked), due[i][v]);
            }
        }
    }

    private static void menAndWomen() {
        b.sentence(2, "1 MEN: only VOICES 2, 3");
        b.range(Festival.RICH, (x, singers) -> x.choir(1, 0, singers, 0), 1, 9999, 8, BAD);
        b.answers(Festival.RICH, x -> x.choir(1, 0, 100, 0), 8);
        b.refuses(Festival.RICH, x -> x.choir(1, 0, 10001, 0), BAD);
        b.refuses(Festival.RICH, x -> x.choir(1, 0, 1000000, 0), BAD);
        b.refuses(Festival.RICH, x -> x.choir(1, 0, 1000001, 0), BAD);
        b.refuses(Festival.RICH, x -> x.choir(1, 0, 100000000, 0), BAD);
        b.sentence(2, "2 WOMEN: only 0, 1");
        b.range(Festival.RICH, (x, singers) -> x.choir(2, 0, singers, 0), 10000, 99990000, 8, BAD);
        b.answers(Festival.RICH, x -> x.choir(2, 0, 1000000, 0), 8);
        b.refuses(Festival.RICH, x -> x.choir(2, 0, 1, 0), BAD);
        b.refuses(Festival.RICH, x -> x.choir(2, 0, 100, 0), BAD);
        b.refuses(Festival.RICH, x -> x.choir(2, 0, 10001, 0), BAD);
        b.refuses(Festival.RICH, x -> x.choir(2, 0, 10100, 0), BAD);
        b.refuses(Festival.RICH, x -> x.choir(2, 0, 0, 0), BAD);
        b.refuses(Festival.RICH, x -> x.choir(2, 0, 100000000, 0), BAD);
    }

    private static void far() {
        b.sentence(2, "4 FAR: it comes on a DAY (0 .. 3)");
        b.range(Festival.RICH, (x, day) -> x.choir(4, 0, 1, day), 0, 3, 8, BAD);
        b.sentence(2, "and is not there ahead of that");
        for (int day = 0; day <= 3; day++) {
            for (int today = 0; today <= 3; today++) {
                int told = day;
                int now = today;
                Festival.Scene scene = x -> x.choir(4, 0, 1, told);
                b.answers(scene.and(x -> x.day(now)), x -> x.about(0, 3), today >= day ? 1 : 0);
            }
        }
        b.sentence(2, "(Others are there from DAY 0 on.)");
        int[] singers = {1, 1, 10000, 1};
        for (int kind = 0; kind <= 3; kind++) {
            int told = kind;
            b.answers(x -> x.choir(told, 0, singers[told], 0), x -> x.about(0, 3), 1);
        }
    }

    private static void otherX() {
        b.sentence(2, "x: .. else 0");
        for (int kind = 0; kind <= 3; kind++) {
            int told = kind;
            int singers = kind == 2 ? 10000 : 1;
            b.range(Festival.RICH, (x, other) -> x.choir(told, 0, singers, other), 0, 0, 8, BAD);
        }
    }

    private static void choirFull() {
        b.sentence(2, "CHOIRS are numbered from 0 on, 16 at most");
        Festival.Scene fifteen = Festival.choirs(new int[] {1, 2, 3, 4, 5, 6, 7, 8, 9, 10, 11, 12, 13, 14, 15});
        b.answers(Festival.EMPTY, x -> x.choir(0, 0, 1, 0), 0);
        b.then(fifteen, x -> x.choir(0, 0, 1, 0), 15, x -> x.count(0), 16);
        b.then(fifteen, x -> x.choir(5, 0, 0, 16 * 14 + 13), 15, x -> x.about(15, 2), 29);
        Festival.Scene sixteen = fifteen.and(x -> x.choir(4, 0, 16, 3));
        b.refuses(sixteen, x -> x.choir(0, 0, 1, 0), FULL);
        b.refuses(sixteen, x -> x.choir(4, 7, 1, 3), FULL);
        b.refuses(sixteen, x -> x.choir(5, 0, 0, 16 * 15 + 14), FULL);
        b.refuses(Festival.FULL, x -> x.choir(3, 0, 1, 0), FULL);
    }

    private static void jointParts() {
        b.sentence(2, "5 JOINT of two CHOIRS with lesser numbers");
        Festival.Scene three = Festival.choirs(1, 2, 3);
        int[] taken = {1, 2, 16, 16 + 2, 16 * 2, 16 * 2 + 1};
        for (int parts : taken) {
            b.answers(three, x -> x.choir(5, 0, 0, parts), 3);
        }
        int[] ofNone = {
            3, 15, 16 + 3, 16 * 3, 16 * 3 + 1, 16 * 3 + 3, 255, 256, 257, -1, -15, -16, LEAST, LEAST + 1, MOST,
        };
        for (int parts : ofNone) {
            b.refuses(three, x -> x.choir(5, 0, 0, parts), NONE);
        }
        b.refuses(Festival.EMPTY, x -> x.choir(5, 0, 0, 0), NONE);
        b.refuses(Festival.EMPTY, x -> x.choir(5, 0, 0, 1), NONE);
        b.sentence(2, "not JOINT");
        Festival.Scene joint = three.and(x -> x.choir(5, 0, 0, 1));
        b.refuses(joint, x -> x.choir(5, 0, 0, 16 * 3 + 2), BAD);
        b.refuses(joint, x -> x.choir(5, 0, 0, 16 * 2 + 3), BAD);
        b.answers(joint, x -> x.choir(5, 0, 0, 16 * 2 + 1), 4);
        b.answers(joint, x -> x.choir(5, 0, 0, 1), 4);
    }

    private static void jointUnlike() {
        b.sentence(2, "unlike");
        Festival.Scene two = Festival.choirs(4, 4);
        b.refuses(two, x -> x.choir(5, 0, 0, 0), BAD);
        b.refuses(two, x -> x.choir(5, 0, 0, 17), BAD);
        b.answers(two, x -> x.choir(5, 0, 0, 1), 2);
        b.answers(two, x -> x.choir(5, 0, 0, 16), 2);
    }

    private static void jointVoices() {
        b.sentence(2, "its VOICES are theirs together (told as 0)");
        b.range(Festival.RICH, (x, singers) -> x.choir(5, 0, singers, 1), 0, 0, 8, BAD);
        Festival.Scene most = x -> {
            x.choir(0, 0, 99999999, 0);
            x.choir(3, 0, 99999999, 0);
            x.choir(1, 0, 1, 0);
            x.choir(2, 0, 1000000, 0);
            x.choir(5, 0, 0, 1);
            x.choir(5, 0, 0, 16 * 2 + 3);
        };
        int[] least = {1, 0, 0, 1};
        for (int v = 0; v < 4; v++) {
            int asked = v;
            b.answers(most, x -> x.voice(4, asked), 198);
            b.answers(most, x -> x.voice(5, asked), least[v]);
        }
        b.answers(most, x -> x.about(4, 2), 792);
        b.answers(most, x -> x.about(5, 2), 2);
    }

    private static void jointTown() {
        b.sentence(2, "its TOWN the first one's");
        Festival.Scene two = x -> {
            x.choir(0, 7, 1, 0);
            x.choir(0, 0, 1, 0);
        };
        b.then(two, x -> x.choir(5, 3, 0, 1), 2, x -> x.about(2, 1), 7);
        b.then(two, x -> x.choir(5, 3, 0, 16), 2, x -> x.about(2, 1), 0);
        b.range(two, (x, town) -> x.choir(5, town, 0, 1), 0, 7, 2, NONE);
    }

    private static void jointIsThere() {
        b.sentence(2, "there as long as both are");
        for (int first = 0; first <= 3; first++) {
            for (int second = 0; second <= 3; second++) {
                for (int today = 0; today <= 3; today++) {
                    int[] days = {first, second, today};
                    Festival.Scene scene = x -> {
                        x.choir(4, 0, 1, days[0]);
                        x.choir(4, 0, 1, days[1]);
                        x.choir(5, 0, 0, 16);
                        x.day(days[2]);
                    };
                    b.answers(scene, x -> x.about(2, 3), today >= first && today >= second ? 1 : 0);
                }
            }
        }
        b.answers(Festival.choirs(1, 1).and(x -> x.choir(5, 0, 0, 1)), x -> x.about(2, 3), 1);
    }

    private static void choirOrderOfRefusals() {
        b.sentence(2, "NONE: TOWN, CHOIRS of x; BAD: kind, singers, x; FULL");
        b.refuses(Festival.RICH, x -> x.choir(6, 8, 1, 0), NONE);
        b.refuses(Festival.RICH, x -> x.choir(0, -1, 0, 0), NONE);
        b.refuses(Festival.RICH, x -> x.choir(4, 8, 1, 4), NONE);
        b.refuses(Festival.RICH, x -> x.choir(5, 0, 1, 8), NONE);
        b.refuses(Festival.RICH, x -> x.choir(5, 8, 0, 0), NONE);
        b.refuses(Festival.FULL, x -> x.choir(0, 8, 1, 0), NONE);
        b.refuses(Festival.FULL, x -> x.choir(5, 0, 0, 256), NONE);
        b.refuses(Festival.FULL, x -> x.choir(6, 0, 1, 0), BAD);
        b.refuses(Festival.FULL, x -> x.choir(0, 0, 0, 0), BAD);
        b.refuses(Festival.FULL, x -> x.choir(0, 0, 1, 1), BAD);
        b.refuses(Festival.FULL, x -> x.choir(5, 0, 0, 17), BAD);
    }

    private static void dayRange() {
        b.sentence(3, "TODAY is a DAY, 0 .. 3 (0 at first)");
        b.range(Festival.EMPTY, (x, d) -> x.day(d), 0, 3, 0, BAD);
        b.then(Festival.EMPTY, x -> x.day(3), 0, x -> x.count(4), 3);
        b.answers(Festival.EMPTY, x -> x.count(4), 0);
    }

    private static void dayNotLess() {
        b.sentence(3, "TODAY becomes d, not less than it was: what it was");
        for (int today = 1; today <= 3; today++) {
            int now = today;
            b.range(x -> x.day(now), (x, d) -> x.day(d), today, 3, today, BAD);
            b.refuses(x -> x.day(now), x -> x.day(0), BAD);
        }
        b.range(Festival.RICH, (x, d) -> x.day(d), 1, 3, 1, BAD);
        b.then(x -> x.day(1), x -> x.day(1), 1, x -> x.day(2), 1);
    }

    private static void songNumbers() {
        b.sentence(4, "a set of KINDS that may sing it (bits, 1 .. 63)");
        b.range(Festival.RICH, (x, kinds) -> x.song(kinds, 1, 0, 1), 1, 63, 4, BAD);
        b.sentence(4, "a set of VOICES that it wants (1 .. 15)");
        b.range(Festival.RICH, (x, voices) -> x.song(1, voices, 0, 1), 1, 15, 4, BAD);
        b.sentence(4, "HARDNESS (0 .. 9)");
        b.range(Festival.RICH, (x, hardness) -> x.song(1, 1, hardness, 1), 0, 9, 4, BAD);
        b.sentence(4, "MINUTES (1 .. 30)");
        b.range(Festival.RICH, (x, minutes) -> x.song(1, 1, 0, minutes), 1, 30, 4, BAD);
    }

    private static void songFull() {
        b.sentence(4, "SONGS are numbered from 0 on, 9 at most");
        b.answers(Festival.EMPTY, x -> x.song(63, 15, 9, 30), 0);
        b.then(Festival.songs(8), x -> x.song(1, 1, 0, 1), 8, x -> x.count(1), 9);
        b.refuses(Festival.songs(9), x -> x.song(1, 1, 0, 1), FULL);
        Festival.Scene nine = Festival.choirs(1).and(Festival.songs(9)).and(Festival.rules("bar * if hard>0"));
        b.refuses(nine, x -> x.song(63, 15, 9, 30), FULL);
        b.refuses(nine, x -> x.song(63, 8, 9, 30), FULL);
        b.refuses(nine, x -> x.song(2, 8, 0, 1), FULL);
        b.sentence(4, "BAD; FULL");
        b.refuses(Festival.FULL, x -> x.song(0, 1, 0, 1), BAD);
        b.refuses(Festival.FULL, x -> x.song(1, 16, 0, 1), BAD);
        b.refuses(Festival.FULL, x -> x.song(1, 1, -1, 1), BAD);
        b.refuses(Festival.FULL, x -> x.song(1, 1, 0, 31), BAD);
    }

    private static void judgeTown() {
        b.sentence(5, "JUDGES .. each of a TOWN");
        b.range(Festival.EMPTY, (x, town) -> x.judge(town), 0, 7, 0, NONE);
        b.range(Festival.RICH, (x, town) -> x.judge(town), 0, 7, 3, NONE);
    }

    private static void judgeFull() {
        b.sentence(5, "JUDGES are numbered from 0 on, 6 at most");
        Festival.Scene five = x -> {
            for (int judge = 0; judge < 5; judge++) {
                x.judge(0);
            }
        };
        b.then(five, x -> x.judge(7), 5, x -> x.count(2), 6);
        b.refuses(five.and(x -> x.judge(0)), x -> x.judge(0), FULL);
        b.sentence(5, "NONE; FULL");
        b.refuses(Festival.FULL, x -> x.judge(7), FULL);
        b.refuses(Festival.FULL, x -> x.judge(8), NONE);
        b.refuses(Festival.FULL, x -> x.judge(-1), NONE);
    }

    private static void markNumbers() {
        b.sentence(6, "-5: there is none such");
        b.edges(Festival.RICH, (x, judge) -> x.mark(judge, 1, 50), new int[] {0, 2}, new int[] {30, NONE}, NO_SUCH);
        b.edges(Festival.RICH, (x, choir) -> x.mark(2, choir, 50), new int[] {0, 7}, new int[] {61, 0}, NO_SUCH);
        b.range(Festival.FULL, (x, judge) -> x.mark(judge, 15, 50), 0, 5, NONE, NO_SUCH);
        b.range(Festival.FULL, (x, choir) -> x.mark(5, choir, 50), 0, 15, NONE, NO_SUCH);
        b.sentence(6, "A MARK (0 .. 100)");
        b.range(Festival.RICH, (x, v) -> x.mark(2, 0, v), 0, 100, 61, BAD);
        b.then(Festival.FULL, x -> x.mark(5, 15, 100), NONE, x -> x.mean(15), 100);
        b.then(Festival.FULL, x -> x.mark(5, 15, 0), NONE, x -> x.mean(15), 0);
    }

    private static void markOfOwnTown() {
        b.sentence(6, "given by a JUDGE to a CHOIR not of its TOWN");
        for (int choir = 0; choir < 8; choir++) {
            for (int judge = 0; judge < 6; judge++) {
                int to = choir;
                int by = judge;
                if (choir == judge) {
                    b.refuses(Festival.FULL, x -> x.mark(by, to, 50), STATE);
                } else {
                    b.answers(Festival.FULL, x -> x.mark(by, to, 50), NONE);
                }
            }
        }
        Festival.Scene joint = x -> {
            x.choir(0, 1, 1, 0);
            x.choir(0, 2, 1, 0);
            x.choir(5, 3, 0, 1);
            x.judge(1);
            x.judge(2);
            x.judge(3);
        };
        b.refuses(joint, x -> x.mark(0, 2, 50), STATE);
        b.answers(joint, x -> x.mark(1, 2, 50), NONE);
        b.answers(joint, x -> x.mark(2, 2, 50), NONE);
    }

    private static void markNewer() {
        b.sentence(6, "a newer one takes its place: what it was (NONE: none)");
        b.then(Festival.RICH, x -> x.mark(2, 0, 100), 61, x -> x.mark(2, 0, 0), 100);
        b.then(Festival.RICH, x -> x.mark(2, 0, 0), 61, x -> x.mark(2, 0, 100), 0);
        b.then(Festival.RICH, x -> x.mark(0, 7, 5), NONE, x -> x.mark(0, 7, 5), 5);
    }

    private static void markOrderOfRefusals() {
        b.sentence(6, "-5: there is none such; BAD: mark; STATE: its own TOWN's");
        b.refuses(Festival.RICH, x -> x.mark(3, 0, 101), NO_SUCH);
        b.refuses(Festival.RICH, x -> x.mark(0, 8, -1), NO_SUCH);
        b.refuses(Festival.RICH, x -> x.mark(0, 0, 101), BAD);
        b.refuses(Festival.RICH, x -> x.mark(0, 0, -1), BAD);
        b.refuses(Festival.RICH, x -> x.mark(0, 0, 100), STATE);
    }

    private static void mean() {
        b.sentence(7, "NONE: also without MARKS");
        b.edges(Festival.RICH, (x, choir) -> x.mean(choir), new int[] {0, 7}, new int[] {65, 0}, NONE);
        b.refuses(Festival.RICH, x -> x.mean(2), NONE);
        b.refuses(Festival.FULL, x -> x.mean(15), NONE);
        b.refuses(Festival.FULL, x -> x.mean(16), NONE);
        b.then(Festival.RICH, x -> x.mark(0, 2, 0), NONE, x -> x.mean(2), 0);
    }

    private static Festival.Scene marked(int... marks) {
        return Festival.FULL.and(x -> {
            for (int judge = 0; judge < marks.length; judge++) {
                x.mark(judge, 15, marks[judge]);
            }
        });
    }

    private static void meanCut() {
        b.sentence(7, "MEAN of a CHOIR: of its MARKS, cut");
        b.answers(marked(0, 1), x -> x.mean(15), 0);
        b.answers(marked(1, 1), x -> x.mean(15), 1);
        b.answers(marked(99, 100), x -> x.mean(15), 99);
        b.answers(marked(0, 0, 0, 0, 0, 5), x -> x.mean(15), 0);
        b.answers(marked(0, 0, 0, 0, 0, 6), x -> x.mean(15), 1);
        b.answers(marked(100, 100, 100, 100, 100, 99), x -> x.mean(15), 99);
        b.answers(marked(100, 100, 100, 100, 100, 100), x -> x.mean(15), 100);
    }

    private static void scaleOfNone() {
        b.sentence(8, "-200: none such");
        Festival.Scene both = marked(10, 20, 30, 40, 50, 60);
        b.edges(both, (x, a) -> x.scale(a, 1), new int[] {0, 5}, new int[] {-10, 40}, NO_SCALE);
        b.edges(both, (x, other) -> x.scale(1, other), new int[] {0, 5}, new int[] {10, -40}, NO_SCALE);
        b.sentence(8, "they are one");
        for (int judge = 0; judge < 6; judge++) {
            int one = judge;
            b.refuses(both, x -> x.scale(one, one), NO_SCALE);
        }
        b.sentence(8, "no CHOIR has MARKS of both");
        Festival.Scene apart = Festival.FULL.and(x -> {
            x.mark(0, 15, 10);
            x.mark(1, 14, 20);
        });
        b.refuses(apart, x -> x.scale(0, 1), NO_SCALE);
        b.refuses(Festival.FULL, x -> x.scale(0, 1), NO_SCALE);
        b.answers(apart.and(x -> x.mark(1, 15, 10)), x -> x.scale(0, 1), 0);
        b.answers(apart.and(x -> x.mark(0, 14, 0)), x -> x.scale(0, 1), -20);
        Festival.Scene first = Festival.choirs(1).and(x -> {
            x.judge(1);
            x.judge(2);
            x.mark(0, 0, 30);
        });
        b.refuses(first, x -> x.scale(0, 1), NO_SCALE);
        b.answers(first.and(x -> x.mark(1, 0, 20)), x -> x.scale(0, 1), 10);
    }

    /** MARKS of JUDGES 0 and 1 for CHOIRS 15, 14, 13. */
    private static Festival.Scene differences(int... first) {
        return Festival.FULL.and(x -> {
            for (int i = 0; i < first.length; i++) {
                x.mark(0, 15 - i, first[i]);
                x.mark(1, 15 - i, 50);
            }
        });
    }

    private static void scaleCut() {
        b.sentence(8, "the mean of the first one's MARK less the second one's .. cut downwards");
        b.answers(differences(50, 49), x -> x.scale(0, 1), -1);
        b.answers(differences(50, 51), x -> x.scale(0, 1), 0);
        b.answers(differences(49, 49), x -> x.scale(0, 1), -1);
        b.answers(differences(50, 50, 49), x -> x.scale(0, 1), -1);
        b.answers(differences(50, 49, 49), x -> x.scale(0, 1), -1);
        b.answers(differences(49, 49, 48), x -> x.scale(0, 1), -2);
        b.answers(differences(51, 51, 50), x -> x.scale(0, 1), 0);
        b.answers(differences(51, 51, 51), x -> x.scale(0, 1), 1);
        b.answers(differences(50, 50, 51), x -> x.scale(1, 0), -1);
        b.answers(marked(0, 100), x -> x.scale(0, 1), -100);
        b.answers(marked(0, 100), x -> x.scale(1, 0), 100);
    }

    private static void about() {
        b.sentence(9, "what 0 KIND .. 8 for whom it votes");
        b.edges(Festival.RICH, (x, what) -> x.about(1, what), new int[] {0, 8}, new int[] {1, 7}, NONE);
        int[] first = {0, 0, 3, 1, 7, 3, 1, 2, 3};
        int[] last = {0, 6, 11, 1, 5, NONE, 0, 19, 0};
        b.sentence(9, "Of a CHOIR .. NONE");
        for (int what = 0; what <= 8; what++) {
            int asked = what;
            int[] dues = {first[what], last[what]};
            b.edges(Festival.RICH, (x, choir) -> x.about(choir, asked), new int[] {0, 7}, dues, NONE);
        }
        b.answers(Festival.FULL, x -> x.about(15, 2), 16);
        b.refuses(Festival.FULL, x -> x.about(16, 2), NONE);
    }

    private static void aboutNone() {
        b.sentence(9, "5 the TOWN where it sleeps (NONE)");
        b.answers(Festival.RICH, x -> x.about(1, 5), 0);
        b.answers(Festival.RICH, x -> x.about(2, 5), NONE);
        b.answers(Festival.RICH.and(x -> x.sleep(1, -1)), x -> x.about(1, 5), NONE);
        b.sentence(9, "6 its row on THE STAGE (NONE), 7 its first place (NONE)");
        b.answers(Festival.RICH, x -> x.about(7, 6), 0);
        b.answers(Festival.RICH, x -> x.about(2, 7), 0);
        b.answers(Festival.RICH, x -> x.about(1, 7), 3);
        b.answers(Festival.RICH, x -> x.about(3, 6), NONE);
        b.answers(Festival.RICH, x -> x.about(3, 7), NONE);
        b.answers(Festival.RICH.and(x -> x.off(7)), x -> x.about(7, 6), NONE);
        b.answers(Festival.RICH.and(x -> x.off(7)), x -> x.about(7, 7), NONE);
        b.sentence(9, "8 for whom it votes (NONE)");
        b.answers(Festival.RICH, x -> x.about(7, 8), 0);
        b.answers(Festival.RICH, x -> x.about(2, 8), NONE);
        b.answers(Festival.RICH.and(x -> x.vote(7, -1)), x -> x.about(7, 8), NONE);
        b.sentence(9, "3 whether it is there");
        b.answers(Festival.RICH, x -> x.about(4, 3), 1);
        b.answers(Festival.RICH, x -> x.about(5, 3), 0);
        b.answers(Festival.RICH.and(x -> x.day(3)), x -> x.about(5, 3), 1);
    }

    private static void voice() {
        b.sentence(10, "SINGERS of a VOICE (0 .. 3). NONE");
        b.edges(Festival.RICH, (x, v) -> x.voice(6, v), new int[] {0, 3}, new int[] {1, 5}, NONE);
        b.edges(Festival.RICH, (x, choir) -> x.voice(choir, 3), new int[] {0, 7}, new int[] {3, 11}, NONE);
        b.edges(Festival.FULL, (x, choir) -> x.voice(choir, 3), new int[] {0, 15}, new int[] {1, 16}, NONE);
        b.answers(Festival.RICH, x -> x.voice(0, 0), 0);
        b.answers(Festival.RICH, x -> x.voice(1, 2), 2);
        b.refuses(Festival.RICH, x -> x.voice(8, 4), NONE);
    }
}
