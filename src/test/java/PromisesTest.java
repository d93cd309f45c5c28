/** For each promise of the document: ordinary inputs, the edges it names, and wrong inputs. */
public final class PromisesTest {
    private static int wrong = 0;

    private static void due(String what, long got, long want) {
        if (got != want) {
            wrong++;
            System.out.println(what + " answered " + got + ", due is " + want);
        }
    }

    private static SongField withChoirs(int... sizes) {
        SongField x = new SongField();
        Festival.choirs(sizes).tell(x);
        return x;
    }

    public static void main(String[] args) {
        newObject();
        choir();
        joint();
        day();
        song();
        judge();
        mark();
        mean();
        scale();
        about();
        voice();
        feed();
        rule();
        faults();
        ruleFull();
        ruleFullWithoutTape();
        ruleFaultsAheadOfFull();
        may();
        tests();
        why();
        vote();
        leader();
        stage();
        tall();
        stand();
        off();
        well();
        clear();
        lay();
        layTies();
        change();
        order();
        orderNine();
        orderYoung();
        ordered();
        rehearse();
        hall();
        whole();
        beds();
        sleep();
        sleepAgain();
        bed();
        march();
        leave();
        gap();
        count();
        System.out.println(wrong == 0 ? "all answers are as due" : wrong + " answers are not as due");
        if (wrong != 0) {
            System.exit(1);
        }
    }

    private static void newObject() {
        SongField x = new SongField();
        for (int what = 0; what <= 10; what++) {
            due("1 count " + what, x.count(what), 0);
        }
        due("1 clear", x.clear(), 0);
        due("1 ordered", x.ordered(0), -1);
        due("1 gap", x.gap(2), 2);
        for (int town = 0; town < 8; town++) {
            due("1 beds", x.beds(town, 0), 0);
        }
        for (int hall = 0; hall < 4; hall++) {
            for (int hour = 0; hour < 24; hour++) {
                due("1 hall", x.hall(hall, hour), -1);
            }
        }
        x.choir(0, 0, 1, 0);
        due("1 last row, last place", x.stand(0, 3, 19), 0);
        x.off(0);
        due("1 no fifth row", x.stand(0, 4, 0), -1);
        due("1 no place 20", x.stand(0, 3, 20), -1);
    }

    private static void choir() {
        SongField x = new SongField();
        due("2 least town", x.choir(0, 0, 1, 0), 0);
        due("2 greatest town", x.choir(3, 7, 99999999, 0), 1);
        due("2 town below", x.choir(0, -1, 1, 0), -1);
        due("2 town above", x.choir(0, 8, 1, 0), -1);
        due("2 town ahead of kind", x.choir(9, 8, 0, 7), -1);
        due("2 kind below", x.choir(-1, 0, 1, 0), -2);
        due("2 kind above", x.choir(6, 0, 1, 0), -2);
        due("2 no singers", x.choir(0, 0, 0, 0), -2);
        due("2 singers below", x.choir(0, 0, -1, 0), -2);
        due("2 singers above", x.choir(0, 0, 100000000, 0), -2);
        due("2 x of mixed", x.choir(0, 0, 1, 1), -2);
        due("2 x of young", x.choir(3, 0, 1, -1), -2);
        due("2 men with voice 1", x.choir(1, 0, 10000, 0), -2);
        due("2 men", x.choir(1, 0, 9999, 0), 2);
        due("2 women with voice 2", x.choir(2, 0, 10100, 0), -2);
        due("2 women with voice 3", x.choir(2, 0, 10001, 0), -2);
        due("2 women", x.choir(2, 0, 99990000, 0), 3);
        due("2 x of women", x.choir(2, 0, 10000, 1), -2);
        due("2 far day above", x.choir(4, 0, 1, 4), -2);
        due("2 far day below", x.choir(4, 0, 1, -1), -2);
        due("2 far day 0", x.choir(4, 0, 1, 0), 4);
        due("2 far day 3", x.choir(4, 0, 1, 3), 5);
        due("2 far is there", x.about(4, 3), 1);
        due("2 far is not there", x.about(5, 3), 0);
        for (int i = 6; i < 16; i++) {
            due("2 up to 16", x.choir(0, 0, i, 0), i);
        }
        due("2 full", x.choir(0, 0, 1, 0), -4);
        due("2 bad ahead of full", x.choir(0, 0, 0, 0), -2);
        due("2 none ahead of full", x.choir(0, 8, 1, 0), -1);
        due("2 refusals add none", x.count(0), 16);
    }

    private static void joint() {
        SongField x = new SongField();
        due("2 joint of none", x.choir(5, 0, 0, 1), -1);
        x.choir(1, 6, 9907, 0);
        x.choir(4, 2, 99010203, 2);
        due("2 joint of one alone", x.choir(5, 0, 0, 0), -2);
        due("2 joint, no second", x.choir(5, 0, 0, 2), -1);
        due("2 joint, no first", x.choir(5, 0, 0, 32), -1);
        due("2 joint, x below", x.choir(5, 0, 0, -1), -1);
        due("2 joint, x beyond", x.choir(5, 0, 0, 256), -1);
        due("2 joint told singers", x.choir(5, 0, 5, 1), -2);
        due("2 joint town", x.choir(5, 8, 0, 1), -1);
        due("2 joint", x.choir(5, 0, 0, 16), 2);
        due("2 joint kind", x.about(2, 0), 5);
        due("2 joint town is the first one's", x.about(2, 1), 2);
        due("2 joint singers", x.about(2, 2), 99 + 7 + 99 + 1 + 2 + 3);
        due("2 joint voice 0", x.voice(2, 0), 99);
        due("2 joint voice 1", x.voice(2, 1), 1);
        due("2 joint voice 2", x.voice(2, 2), 101);
        due("2 joint voice 3", x.voice(2, 3), 10);
        due("2 joint of joint", x.choir(5, 0, 0, 2), -2);
        due("2 joint of joint first", x.choir(5, 0, 0, 33), -2);
        due("2 joint the other way", x.choir(5, 0, 0, 1), 3);
        due("2 joint town of 0", x.about(3, 1), 6);
        due("2 joint waits for the far one", x.about(2, 3), 0);
        x.day(1);
        due("2 joint waits still", x.about(2, 3), 0);
        x.day(2);
        due("2 joint is there", x.about(2, 3), 1);
    }

    private static void day() {
        SongField x = new SongField();
        due("3 below", x.day(-1), -2);
        due("3 above", x.day(4), -2);
        due("3 same", x.day(0), 0);
        due("3 on", x.day(2), 0);
        due("3 back", x.day(1), -2);
        due("3 today stays", x.count(4), 2);
        due("3 last", x.day(3), 2);
        due("3 last again", x.day(3), 3);
    }

    private static void song() {
        SongField x = new SongField();
        due("4 kinds 0", x.song(0, 1, 0, 1), -2);
        due("4 kinds 64", x.song(64, 1, 0, 1), -2);
        due("4 voices 0", x.song(1, 0, 0, 1), -2);
        due("4 voices 16", x.song(1, 16, 0, 1), -2);
        due("4 hardness -1", x.song(1, 1, -1, 1), -2);
        due("4 hardness 10", x.song(1, 1, 10, 1), -2);
        due("4 minutes 0", x.song(1, 1, 0, 0), -2);
        due("4 minutes 31", x.song(1, 1, 0, 31), -2);
        due("4 least", x.song(1, 1, 0, 1), 0);
        due("4 most", x.song(63, 15, 9, 30), 1);
        for (int i = 2; i < 9; i++) {
            due("4 up to 9", x.song(1, 1, 0, 1), i);
        }
        due("4 full", x.song(1, 1, 0, 1), -4);
        due("4 bad ahead of full", x.song(0, 1, 0, 1), -2);
        due("4 count", x.count(1), 9);
    }

    private static void judge() {
        SongField x = new SongField();
        due("5 town below", x.judge(-1), -1);
        due("5 town above", x.judge(8), -1);
        for (int i = 0; i < 6; i++) {
            due("5 up to 6", x.judge(i == 5 ? 7 : 0), i);
        }
        due("5 full", x.judge(0), -4);
        due("5 none ahead of full", x.judge(8), -1);
        due("5 count", x.count(2), 6);
    }

    private static void mark() {
        SongField x = new SongField();
        x.choir(0, 1, 1, 0);
        x.choir(0, 2, 1, 0);
        x.choir(5, 0, 0, 16);
        x.judge(1);
        due("6 no judge", x.mark(1, 0, 5), -5);
        due("6 judge below", x.mark(-1, 0, 5), -5);
        due("6 no choir", x.mark(0, 3, 5), -5);
        due("6 choir below", x.mark(0, -1, 5), -5);
        due("6 none such ahead of bad", x.mark(0, 3, 101), -5);
        due("6 below", x.mark(0, 1, -1), -2);
        due("6 above", x.mark(0, 1, 101), -2);
        due("6 bad ahead of state", x.mark(0, 0, 101), -2);
        due("6 own town", x.mark(0, 0, 50), -3);
        due("6 first", x.mark(0, 1, 0), -1);
        due("6 second", x.mark(0, 1, 100), 0);
        due("6 third", x.mark(0, 1, 7), 100);
        due("6 joint of its first one's town", x.mark(0, 2, 7), -1);
    }

    private static void mean() {
        SongField x = new SongField();
        x.choir(0, 1, 1, 0);
        x.judge(0);
        x.judge(2);
        x.judge(3);
        due("7 without marks", x.mean(0), -1);
        due("7 no choir", x.mean(1), -1);
        due("7 choir below", x.mean(-1), -1);
        x.mark(0, 0, 0);
        due("7 a mark of 0", x.mean(0), 0);
        x.mark(1, 0, 99);
        due("7 cut", x.mean(0), 49);
        x.mark(0, 0, 100);
        due("7 newer takes its place", x.mean(0), 99);
        x.mark(2, 0, 2);
        due("7 of three", x.mean(0), 67);
    }

    private static void scale() {
        SongField x = new SongField();
        for (int i = 0; i < 4; i++) {
            x.choir(0, 1, 1, 0);
        }
        x.judge(0);
        x.judge(2);
        x.mark(0, 0, 10);
        x.mark(1, 1, 10);
        due("8 no choir of both", x.scale(0, 1), -200);
        due("8 one", x.scale(0, 0), -200);
        due("8 none such", x.scale(0, 2), -200);
        due("8 below", x.scale(-1, 0), -200);
        x.mark(1, 0, 13);
        due("8 of one", x.scale(0, 1), -3);
        x.mark(0, 1, 10);
        due("8 cut downwards", x.scale(0, 1), -2);
        due("8 the other way", x.scale(1, 0), 1);
        x.mark(0, 2, 100);
        due("8 others do not count", x.scale(0, 1), -2);
        x.mark(1, 3, 0);
        x.mark(0, 3, 100);
        due("8 of three", x.scale(0, 1), 32);
    }

    private static void about() {
        SongField x = new SongField();
        x.choir(4, 3, 1020304, 1);
        due("9 no choir", x.about(1, 0), -1);
        due("9 choir below", x.about(-1, 0), -1);
        due("9 what below", x.about(0, -1), -1);
        due("9 what above", x.about(0, 9), -1);
        int[] first = {4, 3, 10, 0, 5, -1, -1, -1, -1};
        for (int what = 0; what < 9; what++) {
            due("9 at first " + what, x.about(0, what), first[what]);
        }
        x.day(1);
        x.tall(0, 8);
        x.beds(6, 10);
        x.sleep(0, 6);
        x.stand(0, 2, 9);
        x.vote(0, 7);
        int[] then = {4, 3, 10, 1, 8, 6, 2, 9, 7};
        for (int what = 0; what < 9; what++) {
            due("9 then " + what, x.about(0, what), then[what]);
        }
        x.off(0);
        due("9 row off", x.about(0, 6), -1);
        due("9 place off", x.about(0, 7), -1);
    }

    private static void voice() {
        SongField x = new SongField();
        x.choir(0, 0, 99000102, 0);
        int[] singers = {99, 0, 1, 2};
        for (int v = 0; v < 4; v++) {
            due("10 voice " + v, x.voice(0, v), singers[v]);
        }
        due("10 below", x.voice(0, -1), -1);
        due("10 above", x.voice(0, 4), -1);
        due("10 no choir", x.voice(1, 0), -1);
        due("10 choir below", x.voice(-1, 0), -1);
    }

    private static void feed() {
        SongField x = new SongField();
        due("11 n 0", x.feed(0, 0), -2);
        due("11 n 9", x.feed(0, 9), -2);
        due("11 n below", x.feed(0, -1), -2);
        due("11 n 1", x.feed(0x6162636465666c65L, 2), 2);
        due("11 behind", x.feed('t', 1), 3);
        x.feed(' ', 1);
        x.feed('*', 1);
        due("11 the lowest bytes, the highest first", x.rule(), 0);
        for (int i = 1; i <= 14; i++) {
            due("11 up", x.feed(-1L, 8), 8 * i);
        }
        due("11 seven more", x.feed(-1L, 7), 119);
        due("11 full", x.feed(-1L, 2), -4);
        due("11 bad ahead of full", x.feed(-1L, 9), -2);
        due("11 full adds none", x.count(8), 119);
        due("11 the 120th", x.feed(-1L, 1), 120);
        due("11 full at 120", x.feed(-1L, 1), -4);
        due("11 bytes above 127 begin no rule", x.rule(), -10);
        due("11 empty then", x.count(8), 0);
    }

    private static void rule() {
        SongField x = new SongField();
        String[] right = {
            "let 0", "bar 5", "let *", "let * if mark>59 and hard<4", "bar 3 if day=0",
            "bar * if town=000 and town=999", "let 1 if size<12", "let 2 if hard=1 and size>003",
            "bar 4 if day<3 and mark=0", "let * if size>999 and day>0",
        };
        for (int i = 0; i < right.length; i++) {
            due("12 " + right[i], Festival.rule(x, right[i]), i);
            due("12 the tape is empty then", x.count(8), 0);
        }
        due("12 count", x.count(3), right.length);
    }

    /** The sign | stands ahead of the byte that is the FAULT, or at the end. */
    private static void faults() {
        SongField x = new SongField();
        String[] faulty = {
            "|", "l|", "le|", "b|", "ba|", "|x", "l|at *", "b|er *", "let|", "let|*", "let |", "let | ",
            "let |6", "let |-1", "let 1|2", "let *|*", "let * |", "let * | ", "let * i|", "let * if|",
            "let * if |", "let * if |x", "let * if mar|", "let * if mar|q=1", "let * if mark|",
            "let * if mark| =1", "let * if mark=|", "let * if mark=| 1", "let * if mark=|>1",
            "let * if mark=123|4", "let * if mark=12|x", "let * if mark=1 |", "let * if mark=1 |or",
            "let * if mark=1 and|", "let * if mark=1 and |", "let * if mark=1 an|", "let * if mark=1 and |if",
            "bar 1 if day=1 and hard<2| ", "bar 1 if day=1 and hard<2| and size=3",
            "bar 1 if day=1 and hard<222|2", "bar 1 if day=1 and hard|2", "bar 1 if da|te=1",
            "bar 1 if |Day=1", "|Let *", "| let *", "let * if s|hard=1", "let * if town|", "let * |and day=1",
            "let| 1".replace(" ", "\t"), "bar *|\0", "|" + (char) 236 + "et *",
        };
        for (String one : faulty) {
            String text = one.replace("|", "");
            due("12 fault of " + one, Festival.rule(x, text), -10 - one.indexOf('|'));
            due("12 the tape is empty too", x.count(8), 0);
        }
        due("12 none is a rule", x.count(3), 0);
    }

    private static void ruleFull() {
        SongField x = new SongField();
        for (int i = 0; i < 12; i++) {
            due("12 up to 12", Festival.rule(x, "let *"), i);
        }
        due("12 full", Festival.rule(x, "bar *"), -4);
        due("12 full changes nothing", x.count(8), 5);
        due("12 full again", x.rule(), -4);
        Festival.feedText(x, "x");
        due("12 full, where a fault would be too", x.rule(), -4);
        due("12 the tape stays with its fault", x.count(8), 6);
        due("12 the next byte comes behind it", x.feed(0, 1), 7);
        due("12 count stays", x.count(3), 12);
        x.choir(0, 0, 1, 0);
        x.song(63, 8, 0, 1);
        due("12 none of the refused was read", x.why(0, 0), 11);
        due("12 nor does it bar", x.may(0, 0), 0);
    }

    private static void ruleFullWithoutTape() {
        SongField x = new SongField();
        for (int i = 0; i < 12; i++) {
            due("12 up to 12", Festival.rule(x, "bar 2"), i);
        }
        due("12 full with an empty tape", x.rule(), -4);
        due("12 still empty", x.count(8), 0);
    }

    private static void ruleFaultsAheadOfFull() {
        SongField x = new SongField();
        for (int i = 0; i < 11; i++) {
            Festival.rule(x, "let *");
        }
        due("12 with 11 rules a fault is told", Festival.rule(x, "let x"), -14);
        due("12 and empties the tape", x.count(8), 0);
        due("12 the twelfth", Festival.rule(x, "let *"), 11);
    }

    private static void may() {
        SongField x = new SongField();
        x.choir(0, 0, 1000001, 0);
        x.choir(1, 0, 101, 0);
        x.choir(4, 0, 1010101, 1);
        x.song(1, 9, 5, 1);
        x.song(2, 4, 5, 1);
        x.song(16, 15, 5, 1);
        x.song(1, 2, 5, 1);
        due("13 no choir", x.may(3, 0), -1);
        due("13 choir below", x.may(-1, 0), -1);
        due("13 no song", x.may(0, 4), -1);
        due("13 song below", x.may(0, -1), -1);
        due("13 may", x.may(0, 0), 0);
        due("13 not there ahead of kind", x.may(2, 0), 1);
        due("13 not there", x.may(2, 2), 1);
        due("13 kind ahead of voice", x.may(1, 3), 2);
        due("13 voice", x.may(0, 3), 3);
        Festival.rule(x, "bar *");
        due("13 barred", x.may(0, 0), 4);
        due("13 voice ahead of rule", x.may(0, 3), 3);
        due("13 kind ahead of rule", x.may(0, 1), 2);
        Festival.rule(x, "let 0");
        due("13 let by the greatest number", x.may(0, 0), 0);
        due("13 still barred", x.may(1, 1), 4);
        x.day(1);
        due("13 there now, barred", x.may(2, 2), 4);
        Festival.rule(x, "let * if day=1");
        due("13 let again", x.may(2, 2), 0);
        x.day(2);
        due("13 a rule holds now", x.may(2, 2), 4);
    }

    private static void tests() {
        String[] holds = {
            "mark=0", "mark<1", "hard=5", "hard>4", "hard<6", "town=3", "town>2", "town<4", "size=12",
            "size>11", "size<13", "day=0", "day<1", "size>1 and size<20", "day=000",
        };
        for (String test : holds) {
            due("11 holds " + test, whyOfTest(test), 0);
        }
        String[] fails = {
            "mark>0", "mark=1", "hard>5", "hard<5", "hard=4", "town>3", "town<3", "town=0", "size>12", "size<12",
            "size=999", "day>0", "day=1", "size>1 and size<12", "size>12 and day=0",
        };
        for (String test : fails) {
            due("11 holds not " + test, whyOfTest(test), -1);
        }
        SongField x = new SongField();
        x.choir(0, 3, 12, 0);
        x.song(1, 8, 5, 1);
        x.judge(0);
        x.judge(1);
        x.mark(0, 0, 60);
        x.mark(1, 0, 61);
        Festival.rule(x, "bar * if mark=60");
        due("13 mark is the mean, cut", x.may(0, 0), 4);
        x.mark(1, 0, 62);
        due("13 the mean now", x.may(0, 0), 0);
    }

    private static int whyOfTest(String test) {
        SongField x = new SongField();
        x.choir(0, 3, 1020405, 0);
        x.song(1, 1, 5, 1);
        Festival.rule(x, "let * if " + test);
        return x.why(0, 0);
    }

    private static void why() {
        SongField x = new SongField();
        x.choir(0, 0, 1, 0);
        x.choir(4, 0, 1, 3);
        x.song(1, 8, 0, 1);
        due("14 no rule", x.why(0, 0), -1);
        Festival.rule(x, "bar 0");
        Festival.rule(x, "let *");
        Festival.rule(x, "bar 4");
        due("14 the greatest", x.why(0, 0), 1);
        due("14 of a choir that is not there", x.why(1, 0), 2);
        due("14 no choir", x.why(2, 0), -1);
        due("14 choir below", x.why(-1, 0), -1);
        due("14 no song", x.why(0, 1), -1);
        due("14 song below", x.why(0, -1), -1);
    }

    private static void vote() {
        SongField x = withChoirs(1);
        due("15 no choir", x.vote(1, 0), -5);
        due("15 choir below", x.vote(-1, 0), -5);
        due("15 conductor above", x.vote(0, 8), -5);
        due("15 conductor below", x.vote(0, -2), -5);
        due("15 first", x.vote(0, 7), -1);
        due("15 second", x.vote(0, 0), 7);
        due("15 none", x.vote(0, -1), 0);
        due("15 again", x.vote(0, 3), -1);
    }

    private static void leader() {
        SongField x = withChoirs(10, 11, 21);
        x.choir(4, 0, 99, 1);
        x.song(17, 8, 0, 1);
        x.song(2, 8, 0, 1);
        due("16 no song", x.leader(2), -1);
        due("16 song below", x.leader(-1), -1);
        due("16 no votes", x.leader(0), -1);
        x.vote(0, 6);
        due("16 one vote", x.leader(0), 6);
        x.vote(1, 5);
        due("16 for each 10, up", x.leader(0), 5);
        x.vote(2, 7);
        due("16 most", x.leader(0), 7);
        x.vote(0, 5);
        due("16 the least of several", x.leader(0), 5);
        x.vote(3, 1);
        due("16 not there", x.leader(0), 5);
        x.day(1);
        due("16 there", x.leader(0), 1);
        due("16 of none that may", x.leader(1), -1);
    }

    private static void stage() {
        SongField x = withChoirs(1, 60);
        due("17 rows 0", x.stage(0, 5), -2);
        due("17 rows 9", x.stage(9, 5), -2);
        due("17 width 0", x.stage(5, 0), -2);
        due("17 width 61", x.stage(5, 61), -2);
        due("17 most", x.stage(8, 60), 0);
        due("17 a whole row", x.stand(1, 7, 0), 0);
        due("17 some block stands", x.stage(1, 1), -3);
        due("17 bad ahead of state", x.stage(0, 1), -2);
        x.off(1);
        due("17 least", x.stage(1, 1), 0);
        due("17 row", x.stand(0, 1, 0), -1);
        due("17 place", x.stand(0, 0, 1), -1);
        due("17 fits", x.stand(0, 0, 0), 0);
    }

    private static void tall() {
        SongField x = withChoirs(1);
        due("18 no choir", x.tall(1, 5), -1);
        due("18 choir below", x.tall(-1, 5), -1);
        due("18 none ahead of bad", x.tall(1, 10), -1);
        due("18 below", x.tall(0, -1), -2);
        due("18 above", x.tall(0, 10), -2);
        due("18 at first", x.tall(0, 9), 5);
        due("18 then", x.tall(0, 0), 9);
        due("18 now", x.about(0, 4), 0);
    }

    private static void stand() {
        SongField x = withChoirs(5, 3, 2, 21);
        x.choir(4, 0, 1, 1);
        due("19 no choir", x.stand(5, 0, 0), -1);
        due("19 choir below", x.stand(-1, 0, 0), -1);
        due("19 row below", x.stand(0, -1, 0), -1);
        due("19 row above", x.stand(0, 4, 0), -1);
        due("19 place below", x.stand(0, 0, -1), -1);
        due("19 place above", x.stand(0, 0, 20), -1);
        due("19 beyond", x.stand(0, 0, 16), -3);
        due("19 too many", x.stand(3, 0, 0), -3);
        due("19 not there", x.stand(4, 0, 0), -3);
        due("19 stands", x.stand(0, 0, 8), 0);
        due("19 it stands already", x.stand(0, 1, 8), -3);
        due("19 none ahead of state", x.stand(0, 4, 0), -1);
        due("19 onto its left end", x.stand(1, 0, 6), -3);
        due("19 onto its right end", x.stand(1, 0, 12), -3);
        due("19 onto its middle", x.stand(2, 0, 9), -3);
        due("19 beside it, left", x.stand(1, 0, 5), 0);
        due("19 beside it, right", x.stand(2, 0, 13), 0);
        due("19 blocks", x.count(5), 3);
        x.day(1);
        due("19 there now", x.stand(4, 0, 19), 0);
    }

    private static void off() {
        SongField x = withChoirs(4);
        due("20 no choir", x.off(1), -1);
        due("20 choir below", x.off(-1), -1);
        due("20 does not stand", x.off(0), -3);
        int[] places = {0, 3, 8, 9, 16};
        int[] seconds = {4, 7, 12, 11, 4};
        for (int i = 0; i < places.length; i++) {
            x.stand(0, 3, places[i]);
            due("20 from " + places[i], x.off(0), seconds[i]);
        }
        due("20 it is off", x.count(5), 0);
    }

    private static void well() {
        SongField x = withChoirs(2, 2, 2);
        due("21 no choir", x.well(3), -1);
        due("21 choir below", x.well(-1), -1);
        due("21 does not stand", x.well(0), -3);
        x.stand(0, 1, 0);
        x.stand(1, 0, 18);
        due("21 alike", x.well(0), 1);
        x.tall(1, 6);
        due("21 one taller ahead, anywhere in the row", x.well(0), 0);
        due("21 in front", x.well(1), 1);
        x.off(1);
        due("21 it went", x.well(0), 1);
        x.tall(2, 9);
        x.stand(2, 1, 4);
        due("21 a taller one in its own row", x.well(0), 1);
        x.off(2);
        x.stand(2, 3, 4);
        due("21 a taller one behind", x.well(0), 1);
    }

    private static void clear() {
        SongField x = withChoirs(4, 4, 6);
        due("22 empty", x.clear(), 0);
        x.stand(0, 0, 2);
        due("22 left", x.clear(), 6);
        x.stand(1, 3, 15);
        due("22 both", x.clear(), 6);
        x.stand(2, 1, 7);
        due("22 left if alike", x.clear(), 6 + 13);
        x.off(0);
        due("22 one off", x.clear(), 13);
        x.off(2);
        x.stand(2, 2, 12);
        due("22 right, one behind the other", x.clear(), 5 + 8);
    }

    private static void lay() {
        SongField x = withChoirs(5, 10, 3, 6, 4);
        x.choir(4, 0, 1, 1);
        due("23 row below", x.lay(-1, 1), -1);
        due("23 row above", x.lay(4, 1), -1);
        due("23 none ahead of bad", x.lay(4, 0), -1);
        due("23 empty set", x.lay(0, 0), -2);
        due("23 five", x.lay(0, 31), -2);
        due("23 a bit of none", x.lay(0, 64 + 1), -2);
        due("23 a bit far off", x.lay(0, 1 << 31 | 1), -2);
        due("23 not there", x.lay(0, 32), -3);
        due("23 too many", x.lay(0, 1 + 2 + 8), -3);
        due("23 nothing changed", x.count(5), 0);
        due("23 one", x.lay(0, 1), 5);
        due("23 it lies at 0", x.about(0, 7), 0);
        due("23 one stands", x.lay(1, 1), -3);
        due("23 not free", x.lay(0, 4), -3);
        due("23 two", x.lay(1, 4 + 2), 10);
        due("23 the lesser first", x.about(1, 7), 0);
        due("23 the other beside", x.about(2, 7), 10);
        due("23 of these alone", x.lay(2, 8 + 16), 4 + 10);
        due("23 all", x.clear(), 5 + 10 + 14);
        x.stage(4, 20);
        due("23 rows", x.about(3, 6), 2);
    }

    private static void layTies() {
        SongField x = withChoirs(3, 3, 3, 3);
        due("23 four alike", x.lay(0, 15), 3 + 6 + 9);
        for (int i = 0; i < 4; i++) {
            due("23 by numbers", x.about(i, 7), 3 * i);
        }
        SongField y = withChoirs(9, 1);
        // 0 first: 9 left, 1 at 9 left with 10: 19; 1 first: 1 left, 9 at 1 left (1 <= 10): 11
        due("23 the greater first is better", y.lay(3, 3), 11);
        due("23 choir 1 at 0", y.about(1, 7), 0);
        due("23 choir 0 at 1", y.about(0, 7), 1);
        SongField z = withChoirs(10, 10);
        due("23 the whole width", z.lay(0, 3), 10);
    }

    private static void change() {
        SongField x = withChoirs(5, 6);
        x.choir(1, 0, 11, 0);
        x.song(1, 8, 0, 1);
        x.song(3, 8, 0, 1);
        x.song(2, 8, 0, 1);
        due("24 no song", x.change(0, 3), -1);
        due("24 no song first", x.change(3, 0), -1);
        due("24 below", x.change(-1, 0), -1);
        due("24 none ahead of bad", x.change(3, 3), -1);
        due("24 one", x.change(0, 0), -2);
        due("24 one of them", x.change(0, 1), 3);
        due("24 the other way", x.change(1, 0), 3);
        due("24 all", x.change(0, 2), 1 + 2 + 3);
        Festival.rule(x, "bar 1");
        due("24 who may, now", x.change(0, 1), 0);
    }

    private static void order() {
        SongField x = new SongField();
        x.choir(0, 0, 10, 0);
        x.choir(1, 0, 20, 0);
        x.choir(4, 0, 30, 0);
        x.song(1, 8, 0, 1);
        x.song(16, 8, 0, 1);
        x.song(3, 8, 0, 1);
        x.song(2, 8, 0, 1);
        due("25 empty", x.order(0), -2);
        due("25 a bit of none", x.order(16), -2);
        due("25 below", x.order(-1), -2);
        due("25 one", x.order(4), 0);
        due("25 one is it", x.ordered(0), 2);
        due("25 and no more", x.ordered(1), -1);
        // 0: {0}, 2: {0, 1}, 3: {1}, 1: {2}: 0-2 4, 2-3 2, 0-3 6, 0-1 8, 1-2 12, 1-3 10
        due("25 four", x.order(15), 14);
        int[] due = {1, 0, 2, 3};
        for (int i = 0; i < 4; i++) {
            due("25 at " + i, x.ordered(i), due[i]);
        }
        due("25 three", x.order(13), 6);
        int[] three = {0, 2, 3, -1};
        for (int i = 0; i < 4; i++) {
            due("25 the lesser at first " + i, x.ordered(i), three[i]);
        }
        Festival.rule(x, "bar *");
        due("25 nobody sings, by numbers", x.order(15), 0);
        for (int i = 0; i < 4; i++) {
            due("25 by numbers " + i, x.ordered(i), i);
        }
    }

    /** Nine songs, each sung by one choir more than the one before: by numbers, or else back. */
    private static void orderNine() {
        SongField x = new SongField();
        for (int i = 0; i < 9; i++) {
            x.choir(0, 0, 10 * i + 1, 0);
            x.song(1, 8, 8 - i, 1);
        }
        for (int i = 0; i < 9; i++) {
            Festival.rule(x, "bar * if size>" + (10 * i + 1) + " and hard=" + (8 - i));
        }
        // from song i to song i + 1 choir i + 1 comes, of 10 * i + 11 singers: 2 * i + 3
        due("25 nine", x.order(511), 3 + 5 + 7 + 9 + 11 + 13 + 15 + 17);
        for (int i = 0; i < 9; i++) {
            due("25 nine at " + i, x.ordered(i), i);
        }
        due("26 nine and no more", x.ordered(9), -1);
        due("25 no tenth", x.order(1023), -2);
    }

    private static void orderYoung() {
        SongField x = new SongField();
        x.choir(3, 0, 10, 0);
        x.choir(0, 0, 50, 0);
        x.choir(5, 0, 0, 1);
        x.song(8, 8, 0, 1);
        x.song(8, 8, 0, 1);
        x.song(1, 8, 0, 1);
        x.song(32, 8, 0, 1);
        due("25 two young", x.order(3), -3);
        due("25 a rest between", x.order(7), 24);
        int[] due = {0, 2, 1};
        for (int i = 0; i < 3; i++) {
            due("25 rest at " + i, x.ordered(i), due[i]);
        }
        due("25 joint ones are not young", x.order(12), 22);
        due("25 state", x.order(3), -3);
        due("25 what was ordered stays", x.ordered(1), 3);
        Festival.rule(x, "bar 3");
        due("25 if none may, none tires", x.order(3), 0);
    }

    private static void ordered() {
        SongField x = withChoirs(5);
        x.song(1, 8, 0, 1);
        x.song(1, 8, 0, 1);
        due("26 none yet", x.ordered(0), -1);
        x.order(3);
        due("26 first", x.ordered(0), 0);
        due("26 second", x.ordered(1), 1);
        due("26 beyond", x.ordered(2), -1);
        due("26 below", x.ordered(-1), -1);
        x.order(4);
        due("26 a refused one does not count", x.ordered(1), 1);
        x.order(2);
        due("26 the latest", x.ordered(0), 1);
        due("26 the latest is shorter", x.ordered(1), -1);
    }

    private static void rehearse() {
        SongField x = withChoirs(5, 6, 7);
        x.choir(1, 0, 3, 0);
        x.song(1, 8, 0, 1);
        x.song(3, 8, 0, 1);
        due("27 hall below", x.rehearse(-1, 0, 0, 1), -1);
        due("27 hall above", x.rehearse(4, 0, 0, 1), -1);
        due("27 hour below", x.rehearse(0, -1, 0, 1), -1);
        due("27 hour above", x.rehearse(0, 24, 0, 1), -1);
        due("27 song below", x.rehearse(0, 0, -1, 1), -1);
        due("27 song above", x.rehearse(0, 0, 2, 1), -1);
        due("27 none ahead of bad", x.rehearse(0, 0, 2, 0), -1);
        due("27 empty", x.rehearse(0, 0, 0, 0), -2);
        due("27 a bit of none", x.rehearse(0, 0, 0, 17), -2);
        due("27 one may not", x.rehearse(0, 0, 0, 9), -3);
        due("27 nothing changed", x.hall(0, 0), -1);
        due("27 three", x.rehearse(3, 23, 0, 7), 3);
        due("27 not free", x.rehearse(3, 23, 1, 8), -3);
        due("27 in another hall", x.rehearse(2, 23, 1, 9), -3);
        due("27 another hall", x.rehearse(2, 23, 1, 8), 1);
        due("27 another hour", x.rehearse(2, 22, 1, 15), 4);
    }

    private static void hall() {
        SongField x = withChoirs(5);
        x.song(1, 8, 0, 1);
        x.song(1, 8, 0, 1);
        x.rehearse(3, 23, 1, 1);
        x.rehearse(0, 0, 0, 1);
        due("28 the song", x.hall(3, 23), 1);
        due("28 the first", x.hall(0, 0), 0);
        due("28 none", x.hall(3, 22), -1);
        due("28 none there", x.hall(2, 23), -1);
        due("28 hall below", x.hall(-1, 0), -1);
        due("28 hall above", x.hall(4, 0), -1);
        due("28 hour below", x.hall(0, -1), -1);
        due("28 hour above", x.hall(0, 24), -1);
    }

    private static void whole() {
        SongField x = withChoirs(5, 6);
        x.choir(4, 0, 3, 1);
        x.song(17, 8, 0, 1);
        x.song(2, 8, 0, 1);
        due("29 no song", x.whole(2), -1);
        due("29 below", x.whole(-1), -1);
        due("29 nobody may", x.whole(1), 0);
        due("29 nobody did", x.whole(0), 0);
        x.rehearse(0, 0, 0, 1);
        due("29 one did", x.whole(0), 0);
        x.rehearse(1, 7, 0, 2);
        due("29 both did", x.whole(0), 1);
        x.day(1);
        due("29 one more may", x.whole(0), 0);
        x.rehearse(1, 8, 0, 4);
        due("29 all did", x.whole(0), 1);
    }

    private static void beds() {
        SongField x = withChoirs(5);
        due("30 town below", x.beds(-1, 0), -1);
        due("30 town above", x.beds(8, 0), -1);
        due("30 none ahead of bad", x.beds(8, -1), -1);
        due("30 below", x.beds(1, -1), -2);
        due("30 above", x.beds(1, 1000), -2);
        due("30 at first", x.beds(1, 999), 0);
        due("30 then", x.beds(1, 6), 999);
        x.sleep(0, 1);
        due("30 more are taken", x.beds(1, 4), -3);
        due("30 bad ahead of state", x.beds(1, -1), -2);
        due("30 as many", x.beds(1, 5), 6);
        x.sleep(0, -1);
        due("30 none", x.beds(1, 0), 5);
    }

    private static void sleep() {
        SongField x = withChoirs(5, 6);
        x.beds(1, 10);
        x.beds(2, 11);
        x.beds(0, 99);
        due("31 no choir", x.sleep(2, 1), -5);
        due("31 choir below", x.sleep(-1, 1), -5);
        due("31 town above", x.sleep(0, 8), -5);
        due("31 town below", x.sleep(0, -2), -5);
        due("31 its own", x.sleep(0, 0), -3);
        due("31 too few", x.sleep(0, 3), -3);
        due("31 nowhere still", x.sleep(0, -1), -1);
        due("31 sleeps", x.sleep(0, 1), -1);
        due("31 too few free", x.sleep(1, 1), -3);
        due("31 elsewhere", x.sleep(1, 2), -1);
        due("31 moves", x.sleep(0, 2), 1);
        due("31 the beds it left are free", x.sleep(1, 1), 2);
        due("31 nowhere", x.sleep(1, -1), 1);
        due("31 where", x.about(0, 5), 2);
        due("31 count", x.count(9), 1);
    }

    private static void sleepAgain() {
        SongField x = withChoirs(5, 6);
        x.beds(1, 5);
        x.beds(2, 11);
        x.sleep(0, 1);
        due("31 again with no bed free beside its own", x.sleep(0, 1), 1);
        due("31 stays there", x.about(0, 5), 1);
        due("31 its beds are taken once", x.beds(1, 4), -3);
        due("31 no more than once", x.beds(1, 5), 5);
        due("31 its own beds are free for none else", x.sleep(1, 1), -3);
        x.sleep(0, 2);
        x.sleep(1, 2);
        due("31 again beside another one", x.sleep(0, 2), 2);
        due("31 again, the other one", x.sleep(1, 2), 2);
        due("31 no more sleep somewhere", x.count(9), 2);
        due("31 its own still", x.sleep(0, 0), -3);
    }

    private static void bed() {
        SongField x = withChoirs(5, 6, 7, 20);
        due("32 a bit of none", x.bed(16), -2);
        due("32 below", x.bed(-1), -2);
        due("32 empty", x.bed(0), 0);
        due("32 no beds", x.bed(15), 4);
        x.beds(0, 7);
        x.beds(3, 12);
        x.beds(5, 8);
        x.beds(6, 8);
        due("32 one finds none", x.bed(15), 1);
        due("32 the least of several", x.about(0, 5), 5);
        due("32 the fewest that are enough", x.about(1, 5), 6);
        due("32 not its own, by numbers", x.about(2, 5), 3);
        due("32 none", x.about(3, 5), -1);
        x.beds(1, 5);
        due("32 others stay", x.bed(7), 0);
        due("32 stays", x.about(0, 5), 5);
        x.beds(2, 20);
        due("32 now it finds one", x.bed(8), 0);
        due("32 where", x.about(3, 5), 2);
    }

    private static void march() {
        SongField x = withChoirs(4, 5, 1);
        due("33 no choir", x.march(3), -1);
        due("33 below", x.march(-1), -1);
        due("33 first", x.march(0), 1);
        due("33 second", x.march(1), 1 + 2 + 2);
        due("33 in it", x.march(0), -3);
        due("33 third", x.march(2), 1 + 2 + 2 + 2 + 1);
    }

    private static void leave() {
        SongField x = withChoirs(4, 5, 1);
        due("34 no choir", x.leave(3), -1);
        due("34 below", x.leave(-1), -1);
        due("34 not in it", x.leave(0), -3);
        x.march(2);
        x.march(1);
        x.march(0);
        due("34 from the middle", x.leave(1), 4);
        due("34 again", x.leave(1), -3);
        due("34 one left", x.leave(2), 1);
        due("34 none left", x.leave(0), 0);
        due("34 back", x.march(0), 1);
    }

    private static void gap() {
        SongField x = withChoirs(4, 4, 4);
        due("35 below", x.gap(-1), -2);
        due("35 above", x.gap(10), -2);
        x.march(0);
        x.march(1);
        x.march(2);
        due("35 at first", x.gap(9), 2);
        due("35 length", x.count(7), 3 + 18);
        due("35 then", x.gap(0), 9);
        due("35 none between", x.count(7), 3);
    }

    private static void count() {
        SongField x = withChoirs(4, 9);
        x.choir(4, 1, 100, 2);
        x.song(1, 8, 0, 1);
        x.judge(0);
        x.judge(1);
        Festival.rule(x, "let *");
        Festival.feedText(x, "bar");
        x.day(1);
        x.stand(0, 0, 0);
        x.march(0);
        x.march(1);
        x.beds(3, 9);
        x.sleep(1, 3);
        int[] due = {3, 1, 2, 1, 1, 1, 2, 6, 3, 1, 13};
        for (int what = 0; what < due.length; what++) {
            due("36 count " + what, x.count(what), due[what]);
        }
        due("36 below", x.count(-1), -1);
        due("36 above", x.count(11), -1);
        x.day(2);
        due("36 more are there", x.count(10), 14);
        x.choir(5, 0, 0, 1);
        due("36 a joint choir's, too", x.count(10), 27);
    }
}
