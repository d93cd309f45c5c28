/** The edges that promises 24 to 36 and the document's section 4 name: orders, halls, beds, the march. */
public final class BoundsOfOrdersTest {
    private static final int NONE = -1, BAD = -2, STATE = -3, NO_SUCH = -5;
    private static final int LEAST = Integer.MIN_VALUE, MOST = Integer.MAX_VALUE;
    private static final Bounds b = new Bounds(24, 36);
    private static final Festival.Scene JOINT_OF_MOST = x -> {
        x.choir(0, 0, 99999999, 0);
        x.choir(0, 0, 99999999, 0);
        x.choir(5, 0, 0, 1);
    };

    public static void main(String[] args) {
        changeNone();
        changeOne();
        changeEachFive();
        changeJustOne();
        orderSet();
        orderYoung();
        orderLeast();
        orderLesserSong();
        orderedNone();
        orderedLatest();
        rehearseNone();
        rehearseSet();
        rehearseMay();
        rehearseInAnotherHall();
        rehearseHallFree();
        rehearseOrderOfRefusals();
        hall();
        wholeNone();
        wholeEach();
        bedsNumbers();
        bedsTaken();
        sleepNone();
        sleepOwn();
        sleepTooFew();
        sleepWhere();
        bedSet();
        bedFewest();
        bedNotOwn();
        bedByNumbers();
        bedOthersStay();
        marchNone();
        marchEachFour();
        marchBehind();
        leaveNone();
        leaveClosesUp();
        gapNumbers();
        gapBetweenTwo();
        countWhat();
        countLimits();
        countThere();
        b.end();
    }

    private static void changeNone() {
        b.sentence(24, "NONE");
        b.edges(Festival.RICH, (x, a) -> x.change(a, 1), new int[] {0, 3}, new int[] {5, 8}, NONE);
        b.edges(Festival.RICH, (x, other) -> x.change(1, other), new int[] {0, 3}, new int[] {5, 8}, NONE);
        b.range(Festival.FULL, (x, a) -> x.change(a, 4), 0, 8, 0, NONE);
        b.range(Festival.FULL, (x, other) -> x.change(4, other), 0, 8, 0, NONE);
    }

    private static void changeOne() {
        b.sentence(24, "NONE; BAD: they are one");
        for (int song = 0; song < 9; song++) {
            int one = song;
            b.refuses(Festival.FULL, x -> x.change(one, one), BAD);
        }
        b.refuses(Festival.FULL, x -> x.change(9, 9), NONE);
        b.refuses(Festival.FULL, x -> x.change(-1, -1), NONE);
        b.refuses(Festival.EMPTY, x -> x.change(0, 0), NONE);
    }

    private static void changeEachFive() {
        b.sentence(24, "1 for each 5 SINGERS, up");
        int[] sizes = {1, 4, 5, 6, 10, 11, 99};
        int[] due = {1, 1, 1, 2, 2, 3, 20};
        for (int i = 0; i < sizes.length; i++) {
            Festival.Scene one = Festival.choirs(sizes[i]).and(x -> x.song(1, 8, 0, 1)).and(x -> x.song(2, 8, 0, 1));
            b.answers(one, x -> x.change(0, 1), due[i]);
        }
        Festival.Scene joint = JOINT_OF_MOST.and(x -> x.song(32, 8, 0, 1)).and(x -> x.song(2, 8, 0, 1));
        b.answers(joint, x -> x.change(0, 1), 159);
        Festival.Scene two = Festival.choirs(1, 1).and(x -> x.song(1, 8, 0, 1)).and(x -> x.song(2, 8, 0, 1));
        b.answers(two, x -> x.change(0, 1), 2);
    }

    private static void changeJustOne() {
        b.sentence(24, "for each CHOIR that MAY sing just one of them");
        Festival.Scene one = Festival.choirs(5);
        int[][] kinds = {{1, 1}, {1, 2}, {2, 1}, {2, 2}};
        int[] due = {0, 1, 1, 0};
        for (int i = 0; i < due.length; i++) {
            int[] told = kinds[i];
            Festival.Scene two = one.and(x -> x.song(told[0], 8, 0, 1)).and(x -> x.song(told[1], 8, 0, 1));
            b.answers(two, x -> x.change(0, 1), due[i]);
        }
        Festival.Scene far = Festival.songs(1).and(x -> x.song(1, 8, 0, 1)).and(x -> x.choir(4, 0, 5, 2));
        b.answers(far.and(x -> x.day(1)), x -> x.change(0, 1), 0);
        b.answers(far.and(x -> x.day(2)), x -> x.change(0, 1), 1);
        b.answers(far.and(x -> x.day(2)).and(Festival.rules("bar 4")), x -> x.change(0, 1), 0);
    }

    private static void orderSet() {
        b.sentence(25, "BAD: the set (1 SONG at least)");
        b.range(Festival.songs(4), (x, set) -> x.order(set), 1, 15, 0, BAD);
        b.answers(Festival.songs(4), x -> x.order(8), 0);
        int[] bad = {-1, 17, 24, LEAST + 1, 1 << 30, 1 << 16};
        for (int set : bad) {
            b.refuses(Festival.songs(4), x -> x.order(set), BAD);
            b.refuses(Festival.RICH, x -> x.order(set), BAD);
        }
        b.range(Festival.FULL, (x, set) -> x.order(set), 1, 511, 0, BAD);
        b.refuses(Festival.FULL, x -> x.order(513), BAD);
        b.refuses(Festival.EMPTY, x -> x.order(1), BAD);
        b.refuses(Festival.EMPTY, x -> x.order(0), BAD);
    }

    /** SONGS of a YOUNG CHOIR, and behind them others of a MIXED one: 2 for each change between. */
    private static Festival.Scene young(int young, int others) {
        return x -> {
            x.choir(3, 0, 5, 0);
            x.choir(0, 0, 1, 0);
            for (int song = 0; song < young + others; song++) {
                x.song(song < young ? 8 : 1, 8, 0, 1);
            }
        };
    }

    private static void orderYoung() {
        b.sentence(25, "Behind a SONG that some YOUNG CHOIR MAY sing none such comes at once .. STATE: none keeps it");
        b.answers(young(1, 0), x -> x.order(1), 0);
        b.refuses(young(2, 0), x -> x.order(3), STATE);
        b.answers(young(1, 1), x -> x.order(3), 2);
        b.answers(young(2, 1), x -> x.order(7), 4);
        b.refuses(young(3, 1), x -> x.order(15), STATE);
        b.answers(young(3, 2), x -> x.order(31), 8);
        b.answers(young(5, 4), x -> x.order(511), 16);
        b.refuses(young(6, 3), x -> x.order(511), STATE);
        b.refuses(young(9, 0), x -> x.order(511), STATE);
        b.answers(young(0, 9), x -> x.order(511), 0);
        b.answers(young(2, 0).and(Festival.rules("bar 3")), x -> x.order(3), 0);
        b.refuses(young(2, 0).and(Festival.rules("bar 0")), x -> x.order(3), STATE);
        b.refuses(Festival.RICH, x -> x.order(5), STATE);
        Festival.Scene unlike = x -> {
            x.choir(3, 0, 100, 0);
            x.choir(3, 0, 1, 0);
            x.song(8, 8, 0, 1);
            x.song(8, 4, 0, 1);
        };
        b.refuses(unlike, x -> x.order(3), STATE);
    }

    /** The order that is kept, place by place. */
    private static void ordered(Festival.Scene scene, int set, int sum, int... songs) {
        b.answers(scene, x -> x.order(set), sum);
        for (int i = 0; i < songs.length; i++) {
            int place = i;
            b.answers(scene.and(x -> x.order(set)), x -> x.ordered(place), songs[i]);
        }
        b.answers(scene.and(x -> x.order(set)), x -> x.ordered(songs.length), NONE);
    }

    private static void orderLeast() {
        b.sentence(25, "Of all orders that keep this the one with the least sum of CHANGES");
        // SONG 0: CHOIR 0; SONG 1: CHOIR 1; SONG 2: both: from one to the other by SONG 2 costs no more.
        Festival.Scene three = x -> {
            x.choir(0, 0, 5, 0);
            x.choir(1, 0, 6, 0);
            x.song(1, 8, 0, 1);
            x.song(2, 8, 0, 1);
            x.song(3, 8, 0, 1);
        };
        ordered(three, 7, 3, 0, 2, 1);
        ordered(three, 3, 3, 0, 1);
        ordered(three, 6, 1, 1, 2);
        ordered(young(5, 4), 511, 16, 0, 5, 1, 6, 2, 7, 3, 8, 4);
        // The same with the SONG between as SONG 0, and with SONGS 1 and 2 that must not follow each other.
        Festival.Scene between = x -> {
            x.choir(0, 0, 5, 0);
            x.choir(1, 0, 6, 0);
            x.song(3, 8, 0, 1);
            x.song(1, 8, 0, 1);
            x.song(2, 8, 0, 1);
        };
        ordered(between, 7, 3, 1, 0, 2);
        Festival.Scene rest = x -> {
            x.choir(3, 0, 5, 0);
            x.song(1, 8, 0, 1);
            x.song(8, 8, 0, 1);
            x.song(8, 8, 0, 1);
        };
        ordered(rest, 7, 2, 1, 0, 2);
    }

    private static void orderLesserSong() {
        b.sentence(25, "of several the one with the lesser SONG at the first place at which they differ");
        ordered(Festival.songs(9), 511, 0, 0, 1, 2, 3, 4, 5, 6, 7, 8);
        ordered(Festival.songs(9), 256 + 16 + 4, 0, 2, 4, 8);
        ordered(Festival.songs(9), 256, 0, 8);
        ordered(young(2, 1), 7, 4, 0, 2, 1);
        ordered(young(2, 2), 15, 4, 0, 2, 3, 1);
        ordered(young(1, 2), 7, 2, 0, 1, 2);
    }

    private static void orderedNone() {
        b.sentence(26, "The i-th SONG .. NONE");
        b.edges(Festival.RICH, (x, i) -> x.ordered(i), new int[] {0, 2}, new int[] {0, 2}, NONE);
        b.edges(Festival.FULL.and(x -> x.order(511)), (x, i) -> x.ordered(i), new int[] {0, 8}, new int[] {0, 8}, NONE);
        b.refuses(Festival.FULL, x -> x.ordered(0), NONE);
    }

    private static void orderedLatest() {
        b.sentence(26, "of the latest order() that was not refused");
        Festival.Scene two = young(2, 1).and(x -> x.order(5));
        b.answers(two, x -> x.ordered(1), 2);
        b.answers(two.and(x -> x.order(3)), x -> x.ordered(1), 2);
        b.answers(two.and(x -> x.order(0)), x -> x.ordered(1), 2);
        b.answers(two.and(x -> x.order(8)), x -> x.ordered(1), 2);
        b.answers(two.and(x -> x.order(7)), x -> x.ordered(2), 1);
        b.answers(two.and(x -> x.order(2)), x -> x.ordered(0), 1);
        b.answers(two.and(x -> x.order(2)), x -> x.ordered(1), NONE);
        b.answers(young(2, 0).and(x -> x.order(3)), x -> x.ordered(0), NONE);
    }

    private static void rehearseNone() {
        b.sentence(27, "in a HALL (0 .. 3)");
        b.range(Festival.RICH, (x, hall) -> x.rehearse(hall, 5, 0, 16), 0, 3, 1, NONE);
        b.sentence(27, "at an HOUR (0 .. 23)");
        b.range(Festival.RICH, (x, hour) -> x.rehearse(2, hour, 0, 16), 0, 23, 1, NONE);
        b.sentence(27, "REHEARSED is a SONG: NONE");
        b.range(Festival.RICH, (x, song) -> x.rehearse(2, 5, song, 16), 0, 3, 1, NONE);
        b.range(Festival.FULL, (x, song) -> x.rehearse(3, 23, song, 1), 0, 8, 1, NONE);
        b.refuses(Festival.choirs(1), x -> x.rehearse(0, 0, 0, 1), NONE);
    }

    private static void rehearseSet() {
        b.sentence(27, "BAD: the set (1 CHOIR at least)");
        b.answers(Festival.RICH, x -> x.rehearse(2, 5, 0, 1), 1);
        b.answers(Festival.RICH, x -> x.rehearse(2, 5, 0, 128), 1);
        b.answers(Festival.RICH, x -> x.rehearse(2, 5, 0, 1 + 8 + 16 + 64 + 128), 5);
        int[] bad = {0, 256, 257, -1, LEAST, LEAST + 1, MOST, 1 << 16, 1 << 30};
        for (int set : bad) {
            b.refuses(Festival.RICH, x -> x.rehearse(2, 5, 0, set), BAD);
        }
        b.answers(Festival.FULL, x -> x.rehearse(0, 0, 0, 65535), 16);
        b.answers(Festival.FULL, x -> x.rehearse(0, 0, 0, 32768), 1);
        b.refuses(Festival.FULL, x -> x.rehearse(0, 0, 0, 65536), BAD);
        b.refuses(Festival.FULL, x -> x.rehearse(0, 0, 0, 65537), BAD);
        b.refuses(Festival.songs(1), x -> x.rehearse(0, 0, 0, 1), BAD);
    }

    private static void rehearseMay() {
        b.sentence(27, "STATE: one may not (each MAY sing it)");
        // CHOIRS 5, 2, 1 may not sing SONG 0: not there, no such VOICE, barred; 2 may not sing SONG 1: its KIND.
        int[] choirs = {5, 2, 1};
        for (int choir : choirs) {
            b.refuses(Festival.RICH, x -> x.rehearse(2, 5, 0, 1 << choir), STATE);
            b.refuses(Festival.RICH, x -> x.rehearse(2, 5, 0, 1 << choir | 1), STATE);
            b.refuses(Festival.RICH, x -> x.rehearse(2, 5, 0, 1 << choir | 128), STATE);
        }
        b.refuses(Festival.RICH, x -> x.rehearse(2, 5, 1, 4), STATE);
        b.answers(Festival.RICH.and(x -> x.day(3)), x -> x.rehearse(2, 5, 0, 32), 1);
        b.answers(Festival.RICH, x -> x.rehearse(2, 5, 1, 2), 1);
    }

    private static void rehearseInAnotherHall() {
        b.sentence(27, "STATE: .. is in another HALL");
        for (int hall = 0; hall <= 3; hall++) {
            for (int other = 0; other <= 3; other++) {
                inAnotherHall(hall, other);
            }
        }
        Festival.Scene ends = Festival.choirs(1).and(Festival.songs(1)).and(x -> x.rehearse(3, 23, 0, 1));
        b.refuses(ends, x -> x.rehearse(0, 23, 0, 1), STATE);
        b.answers(ends, x -> x.rehearse(0, 22, 0, 1), 1);
        b.answers(ends, x -> x.rehearse(3, 0, 0, 1), 1);
    }

    private static void inAnotherHall(int hall, int other) {
        Festival.Scene busy = Festival.choirs(1, 1, 1).and(Festival.songs(2)).and(x -> x.rehearse(hall, 7, 0, 3));
        if (hall != other) {
            b.refuses(busy, x -> x.rehearse(other, 7, 0, 1), STATE);
            b.refuses(busy, x -> x.rehearse(other, 7, 1, 2), STATE);
            b.refuses(busy, x -> x.rehearse(other, 7, 1, 6), STATE);
            b.answers(busy, x -> x.rehearse(other, 7, 0, 4), 1);
        }
        b.answers(busy, x -> x.rehearse(other, 6, 0, 7), 3);
        b.answers(busy, x -> x.rehearse(other, 8, 1, 7), 3);
    }

    private static void rehearseHallFree() {
        b.sentence(27, "STATE: .. the HALL is not free");
        int[] halls = {0, 3};
        int[] hours = {0, 23};
        for (int hall : halls) {
            for (int hour : hours) {
                Festival.Scene free = Festival.choirs(1, 1).and(Festival.songs(2));
                Festival.Scene taken = free.and(x -> x.rehearse(hall, hour, 0, 1));
                b.refuses(taken, x -> x.rehearse(hall, hour, 0, 1), STATE);
                b.refuses(taken, x -> x.rehearse(hall, hour, 0, 2), STATE);
                b.refuses(taken, x -> x.rehearse(hall, hour, 1, 2), STATE);
                b.answers(taken, x -> x.rehearse(3 - hall, hour, 1, 2), 1);
                b.answers(taken, x -> x.rehearse(hall, 23 - hour, 1, 3), 2);
            }
        }
    }

    private static void rehearseOrderOfRefusals() {
        b.sentence(27, "NONE; BAD; STATE");
        b.refuses(Festival.RICH, x -> x.rehearse(4, 0, 0, 0), NONE);
        b.refuses(Festival.RICH, x -> x.rehearse(0, 24, 0, 256), NONE);
        b.refuses(Festival.RICH, x -> x.rehearse(0, 0, 4, 1), NONE);
        b.refuses(Festival.RICH, x -> x.rehearse(0, 0, -1, 0), NONE);
        b.refuses(Festival.RICH, x -> x.rehearse(0, 0, 0, 0), BAD);
        b.refuses(Festival.RICH, x -> x.rehearse(0, 0, 0, 257), BAD);
        b.refuses(Festival.RICH, x -> x.rehearse(0, 0, 0, 8), STATE);
    }

    private static void hall() {
        b.sentence(28, "The SONG in a HALL at an HOUR. NONE: none, too");
        Festival.Scene corners = Festival.choirs(1, 1).and(Festival.songs(4)).and(x -> {
            x.rehearse(0, 0, 0, 1);
            x.rehearse(3, 0, 1, 2);
            x.rehearse(0, 23, 2, 1);
            x.rehearse(3, 23, 3, 2);
        });
        b.edges(corners, (x, hall) -> x.hall(hall, 0), new int[] {0, 3}, new int[] {0, 1}, NONE);
        b.edges(corners, (x, hall) -> x.hall(hall, 23), new int[] {0, 3}, new int[] {2, 3}, NONE);
        b.edges(corners, (x, hour) -> x.hall(0, hour), new int[] {0, 23}, new int[] {0, 2}, NONE);
        b.edges(corners, (x, hour) -> x.hall(3, hour), new int[] {0, 23}, new int[] {1, 3}, NONE);
        b.refuses(corners, x -> x.hall(0, 1), NONE);
        b.refuses(corners, x -> x.hall(3, 22), NONE);
        b.refuses(corners, x -> x.hall(1, 0), NONE);
        b.refuses(corners, x -> x.hall(2, 23), NONE);
    }

    private static void wholeNone() {
        b.sentence(29, "NONE");
        Festival.Scene ends = Festival.choirs(1).and(Festival.songs(9)).and(x -> {
            x.rehearse(0, 0, 0, 1);
            x.rehearse(0, 1, 8, 1);
        });
        b.range(ends, (x, song) -> x.whole(song), 0, 8, 1, NONE);
        b.edges(Festival.RICH, (x, song) -> x.whole(song), new int[] {0, 3}, new int[] {0, 0}, NONE);
        b.sentence(29, "0 (also if no CHOIR MAY sing it)");
        b.answers(Festival.songs(1), x -> x.whole(0), 0);
        b.answers(Festival.choirs(1).and(x -> x.song(2, 8, 0, 1)), x -> x.whole(0), 0);
        b.answers(ends.and(Festival.rules("bar *")), x -> x.whole(0), 0);
    }

    private static void wholeEach() {
        b.sentence(29, "A SONG is WHOLE if each CHOIR that MAY sing it REHEARSED it");
        Festival.Scene two = Festival.choirs(1, 1).and(Festival.songs(2));
        b.answers(two, x -> x.whole(0), 0);
        b.answers(two.and(x -> x.rehearse(0, 0, 0, 1)), x -> x.whole(0), 0);
        b.answers(two.and(x -> x.rehearse(0, 0, 0, 2)), x -> x.whole(0), 0);
        b.answers(two.and(x -> x.rehearse(0, 0, 0, 3)), x -> x.whole(0), 1);
        b.answers(two.and(x -> x.rehearse(0, 0, 0, 3)), x -> x.whole(1), 0);
        Festival.Scene apart = two.and(x -> x.rehearse(3, 23, 0, 2)).and(x -> x.rehearse(0, 0, 0, 1));
        b.answers(apart, x -> x.whole(0), 1);
        b.answers(apart.and(x -> x.choir(0, 0, 1, 0)), x -> x.whole(0), 0);
        b.answers(apart.and(x -> x.choir(4, 0, 1, 1)), x -> x.whole(0), 1);
        b.answers(apart.and(x -> x.choir(4, 0, 1, 1)).and(x -> x.day(1)), x -> x.whole(0), 0);
        b.answers(two.and(x -> x.rehearse(3, 23, 0, 2)).and(x -> x.rehearse(0, 23, 0, 3)), x -> x.whole(0), 0);
        b.answers(Festival.FULL.and(x -> x.rehearse(0, 0, 8, 65535)), x -> x.whole(8), 1);
        b.answers(Festival.FULL.and(x -> x.rehearse(0, 0, 8, 32767)), x -> x.whole(8), 0);
    }

    private static void bedsNumbers() {
        b.sentence(30, "BEDS of a TOWN: NONE");
        b.edges(Festival.RICH, (x, town) -> x.beds(town, 20), new int[] {0, 7}, new int[] {20, 999}, NONE);
        b.sentence(30, "each TOWN has so many (0 .. 999)");
        b.range(Festival.EMPTY, (x, n) -> x.beds(7, n), 0, 999, 0, BAD);
        b.range(Festival.RICH, (x, n) -> x.beds(1, n), 0, 999, 0, BAD);
        b.then(Festival.EMPTY, x -> x.beds(0, 999), 0, x -> x.beds(0, 0), 999);
        b.sentence(30, "NONE; BAD; STATE");
        b.refuses(Festival.RICH, x -> x.beds(8, -1), NONE);
        b.refuses(Festival.RICH, x -> x.beds(-1, 1000), NONE);
        b.refuses(Festival.RICH, x -> x.beds(0, -1), BAD);
        b.refuses(Festival.RICH, x -> x.beds(0, 1000), BAD);
    }

    private static void bedsTaken() {
        b.sentence(30, "STATE: more are taken");
        b.answers(Festival.RICH, x -> x.beds(0, 5), 20);
        b.refuses(Festival.RICH, x -> x.beds(0, 4), STATE);
        b.refuses(Festival.RICH, x -> x.beds(0, 0), STATE);
        b.answers(Festival.RICH, x -> x.beds(3, 3), 9);
        b.refuses(Festival.RICH, x -> x.beds(3, 2), STATE);
        Festival.Scene two = Festival.choirs(5, 6).and(x -> {
            x.beds(7, 11);
            x.sleep(0, 7);
            x.sleep(1, 7);
        });
        b.answers(two, x -> x.beds(7, 11), 11);
        b.refuses(two, x -> x.beds(7, 10), STATE);
        b.answers(two.and(x -> x.sleep(1, -1)), x -> x.beds(7, 5), 11);
        b.refuses(two.and(x -> x.sleep(1, -1)), x -> x.beds(7, 4), STATE);
    }

    private static void sleepNone() {
        b.sentence(31, "(-1: nowhere) .. -5: there is none such");
        Festival.Scene all = Festival.choirs(5).and(x -> x.choir(0, 3, 5, 0)).and(x -> {
            x.beds(0, 5);
            x.beds(7, 5);
        });
        b.range(all, (x, town) -> x.sleep(1, town), -1, 7, NONE, NO_SUCH);
        b.answers(all, x -> x.sleep(1, 0), NONE);
        b.range(all, (x, choir) -> x.sleep(choir, 7), 0, 1, NONE, NO_SUCH);
        b.range(Festival.FULL.and(x -> x.beds(6, 16)), (x, choir) -> x.sleep(choir, 6), 0, 15, NONE, NO_SUCH);
        b.refuses(Festival.RICH, x -> x.sleep(8, -1), NO_SUCH);
        b.refuses(Festival.RICH, x -> x.sleep(-1, -1), NO_SUCH);
        b.refuses(Festival.RICH, x -> x.sleep(0, -2), NO_SUCH);
    }

    private static void sleepOwn() {
        b.sentence(31, "STATE: its own");
        for (int town = 0; town <= 7; town++) {
            for (int own = 0; own <= 7; own++) {
                int[] towns = {town, own};
                Festival.Scene one = x -> {
                    x.choir(0, towns[1], 5, 0);
                    x.beds(towns[0], 999);
                };
                if (town == own) {
                    b.refuses(one, x -> x.sleep(0, towns[0]), STATE);
                } else {
                    b.answers(one, x -> x.sleep(0, towns[0]), NONE);
                }
            }
        }
        Festival.Scene joint = Festival.choirs(1).and(x -> {
            x.choir(0, 1, 1, 0);
            x.choir(5, 2, 0, 16);
            for (int town = 0; town < 8; town++) {
                x.beds(town, 9);
            }
        });
        b.refuses(joint, x -> x.sleep(2, 1), STATE);
        b.answers(joint, x -> x.sleep(2, 0), NONE);
        b.answers(joint, x -> x.sleep(2, 2), NONE);
    }

    private static void sleepTooFew() {
        b.sentence(31, "STATE: .. too few BEDS (all of it .. where so many BEDS are free)");
        Festival.Scene two = Festival.choirs(5, 6);
        b.refuses(two, x -> x.sleep(0, 7), STATE);
        b.refuses(two.and(x -> x.beds(7, 4)), x -> x.sleep(0, 7), STATE);
        b.answers(two.and(x -> x.beds(7, 5)), x -> x.sleep(0, 7), NONE);
        Festival.Scene first = two.and(x -> x.beds(7, 999)).and(x -> x.sleep(0, 7));
        b.refuses(first.and(x -> x.beds(7, 10)), x -> x.sleep(1, 7), STATE);
        b.answers(first.and(x -> x.beds(7, 11)), x -> x.sleep(1, 7), NONE);
        b.answers(first.and(x -> x.beds(7, 5)), x -> x.sleep(0, 7), 7);
        b.refuses(first.and(x -> x.beds(6, 4)), x -> x.sleep(0, 6), STATE);
        b.refuses(JOINT_OF_MOST.and(x -> x.beds(1, 791)), x -> x.sleep(2, 1), STATE);
        b.answers(JOINT_OF_MOST.and(x -> x.beds(1, 792)), x -> x.sleep(2, 1), NONE);
    }

    private static void sleepWhere() {
        b.sentence(31, "where it did (NONE)");
        Festival.Scene one = Festival.choirs(5).and(x -> x.beds(1, 5)).and(x -> x.beds(7, 5));
        b.then(one, x -> x.sleep(0, 1), NONE, x -> x.sleep(0, 7), 1);
        b.then(one, x -> x.sleep(0, 7), NONE, x -> x.sleep(0, -1), 7);
        b.then(one, x -> x.sleep(0, -1), NONE, x -> x.sleep(0, 1), NONE);
        b.then(one, x -> x.sleep(0, 7), NONE, x -> x.sleep(0, 7), 7);
        Festival.Scene zero = x -> {
            x.choir(0, 1, 5, 0);
            x.beds(0, 5);
        };
        b.then(zero, x -> x.sleep(0, 0), NONE, x -> x.sleep(0, -1), 0);
    }

    private static void bedSet() {
        b.sentence(32, "BAD: a bit of none");
        Festival.Scene two = Festival.choirs(5, 6);
        int[] bad = {4, 5, 7, 8, 1 << 16, 1 << 30, -1, LEAST, LEAST + 1, MOST};
        for (int set : bad) {
            b.refuses(two.and(x -> x.beds(1, 999)), x -> x.bed(set), BAD);
        }
        b.answers(two, x -> x.bed(0), 0);
        b.answers(two, x -> x.bed(1), 1);
        b.answers(two, x -> x.bed(3), 2);
        b.answers(Festival.FULL, x -> x.bed(32768), 1);
        b.answers(Festival.FULL, x -> x.bed(65535), 16);
        b.refuses(Festival.FULL.and(x -> x.beds(6, 999)), x -> x.bed(65536), BAD);
        b.refuses(Festival.FULL.and(x -> x.beds(6, 999)), x -> x.bed(65537), BAD);
        b.answers(Festival.EMPTY, x -> x.bed(0), 0);
        b.refuses(Festival.EMPTY, x -> x.bed(1), BAD);
    }

    private static Festival.Scene beds(int... all) {
        return x -> {
            for (int town = 0; town < all.length; town++) {
                x.beds(town, all[town]);
            }
        };
    }

    private static void bedFewest() {
        b.sentence(32, "the TOWN with the fewest free BEDS that are enough");
        Festival.Scene one = Festival.choirs(5);
        b.then(one.and(beds(0, 4)), x -> x.bed(1), 1, x -> x.about(0, 5), NONE);
        b.then(one.and(beds(0, 5)), x -> x.bed(1), 0, x -> x.about(0, 5), 1);
        b.then(one.and(beds(0, 7, 6, 4)), x -> x.bed(1), 0, x -> x.about(0, 5), 2);
        b.then(one.and(beds(0, 6, 7, 4)), x -> x.bed(1), 0, x -> x.about(0, 5), 1);
        b.then(one.and(beds(0, 999, 0, 0, 0, 0, 0, 5)), x -> x.bed(1), 0, x -> x.about(0, 5), 7);
        Festival.Scene taken = Festival.choirs(5, 90).and(beds(0, 96, 7)).and(x -> x.sleep(1, 1));
        b.then(taken, x -> x.bed(1), 0, x -> x.about(0, 5), 1);
        b.then(taken.and(x -> x.beds(1, 94)), x -> x.bed(1), 0, x -> x.about(0, 5), 2);
        b.sentence(32, "the least of several");
        b.then(one.and(beds(0, 0, 6, 6, 6)), x -> x.bed(1), 0, x -> x.about(0, 5), 2);
        b.then(one.and(beds(0, 7, 6, 7, 6)), x -> x.bed(1), 0, x -> x.about(0, 5), 2);
        b.then(taken.and(x -> x.beds(1, 97)), x -> x.bed(1), 0, x -> x.about(0, 5), 1);
    }

    private static void bedNotOwn() {
        b.sentence(32, "own TOWNS not");
        b.then(Festival.choirs(5).and(beds(5, 999)), x -> x.bed(1), 0, x -> x.about(0, 5), 1);
        b.then(Festival.choirs(5).and(beds(5, 4)), x -> x.bed(1), 1, x -> x.about(0, 5), NONE);
        Festival.Scene last = x -> x.choir(0, 7, 5, 0);
        b.then(last.and(beds(999, 0, 0, 0, 0, 0, 0, 5)), x -> x.bed(1), 0, x -> x.about(0, 5), 0);
        b.then(last.and(beds(0, 0, 0, 0, 0, 0, 0, 5)), x -> x.bed(1), 1, x -> x.about(0, 5), NONE);
    }

    private static void bedByNumbers() {
        b.sentence(32, "CHOIRS of a set, by numbers .. how many find none");
        Festival.Scene three = Festival.choirs(5, 6, 5).and(beds(0, 6, 0, 0, 5));
        b.answers(three, x -> x.bed(7), 1);
        int[] due = {4, 1, NONE};
        int[] withoutFirst = {NONE, 1, 4};
        for (int i = 0; i < 3; i++) {
            int choir = i;
            b.answers(three.and(x -> x.bed(7)), x -> x.about(choir, 5), due[i]);
            b.answers(three.and(x -> x.bed(6)), x -> x.about(choir, 5), withoutFirst[i]);
        }
        b.answers(three.and(x -> x.beds(4, 0)), x -> x.bed(7), 2);
        b.answers(three.and(x -> x.beds(4, 10)), x -> x.bed(7), 1);
        b.answers(three.and(x -> x.beds(1, 16)), x -> x.bed(7), 0);
    }

    private static void bedOthersStay() {
        b.sentence(32, "that sleep nowhere; others of it stay where they are");
        Festival.Scene one = Festival.choirs(5, 5).and(beds(0, 999, 5)).and(x -> x.sleep(0, 1));
        b.then(one, x -> x.bed(1), 0, x -> x.about(0, 5), 1);
        b.then(one, x -> x.bed(3), 0, x -> x.about(0, 5), 1);
        b.then(one, x -> x.bed(3), 0, x -> x.about(1, 5), 2);
        b.then(one.and(x -> x.sleep(0, -1)), x -> x.bed(1), 0, x -> x.about(0, 5), 2);
        b.then(one, x -> x.bed(1), 0, x -> x.about(1, 5), NONE);
    }

    private static void marchNone() {
        b.sentence(33, "NONE; STATE: it is in it");
        b.edges(Festival.choirs(5, 1), (x, choir) -> x.march(choir), new int[] {0, 1}, new int[] {2, 1}, NONE);
        b.edges(Festival.FULL, (x, choir) -> x.march(choir), new int[] {0, 15}, new int[] {1, 4}, NONE);
        b.refuses(Festival.RICH, x -> x.march(8), NONE);
        b.refuses(Festival.RICH, x -> x.march(0), STATE);
        b.refuses(Festival.RICH, x -> x.march(3), STATE);
        b.refuses(Festival.RICH, x -> x.march(7), STATE);
        b.answers(Festival.RICH.and(x -> x.leave(7)), x -> x.march(7), 13);
    }

    private static void marchEachFour() {
        b.sentence(33, "one place for each 4 SINGERS, up");
        int[] sizes = {1, 3, 4, 5, 8, 9, 99};
        int[] due = {1, 1, 1, 2, 2, 3, 25};
        for (int i = 0; i < sizes.length; i++) {
            b.answers(Festival.choirs(sizes[i]), x -> x.march(0), due[i]);
        }
        b.answers(JOINT_OF_MOST, x -> x.march(2), 198);
    }

    private static void marchBehind() {
        b.sentence(33, "A CHOIR comes behind THE MARCH: its length then");
        b.then(Festival.choirs(1, 1, 5), x -> x.march(1), 1, x -> x.march(0), 4);
        b.then(Festival.choirs(1, 1, 5).and(x -> x.march(0)), x -> x.march(1), 4, x -> x.march(2), 8);
        Festival.Scene fifteen = Festival.FULL.and(x -> {
            for (int choir = 0; choir < 15; choir++) {
                x.march(choir);
            }
        });
        b.then(fifteen, x -> x.march(15), 70, x -> x.count(6), 16);
        b.refuses(fifteen.and(x -> x.march(15)), x -> x.march(15), STATE);
        b.refuses(fifteen.and(x -> x.march(15)), x -> x.march(16), NONE);
    }

    private static void leaveNone() {
        b.sentence(34, "NONE; STATE: it is not in it");
        b.edges(Festival.RICH, (x, choir) -> x.leave(choir), new int[] {0, 7}, new int[] {8, 6}, NONE);
        b.refuses(Festival.RICH, x -> x.leave(1), STATE);
        b.refuses(Festival.RICH.and(x -> x.leave(0)), x -> x.leave(0), STATE);
        b.refuses(Festival.FULL, x -> x.leave(15), STATE);
        b.refuses(Festival.FULL, x -> x.leave(16), NONE);
        b.refuses(Festival.EMPTY, x -> x.leave(0), NONE);
    }

    private static void leaveClosesUp() {
        b.sentence(34, "those behind close up: its length then");
        Festival.Scene three = Festival.choirs(4, 8, 12).and(x -> {
            x.march(0);
            x.march(1);
            x.march(2);
        });
        b.then(three, x -> x.leave(0), 7, x -> x.count(6), 2);
        b.then(three, x -> x.leave(1), 6, x -> x.count(7), 6);
        b.then(three, x -> x.leave(2), 5, x -> x.leave(1), 1);
        b.then(Festival.choirs(9).and(x -> x.march(0)), x -> x.leave(0), 0, x -> x.count(6), 0);
    }

    private static void gapNumbers() {
        b.sentence(35, "GAP (0 .. 9, 2 at first) .. what it was. BAD");
        b.range(Festival.EMPTY, (x, g) -> x.gap(g), 0, 9, 2, BAD);
        b.range(Festival.RICH, (x, g) -> x.gap(g), 0, 9, 4, BAD);
        b.then(Festival.EMPTY, x -> x.gap(9), 2, x -> x.gap(0), 9);
        b.then(Festival.EMPTY, x -> x.gap(0), 2, x -> x.gap(9), 0);
    }

    private static void gapBetweenTwo() {
        b.sentence(35, "and GAP between two");
        Festival.Scene three = Festival.choirs(1, 1, 1);
        Festival.Scene marching = three.and(x -> x.march(0));
        int[] gaps = {0, 2, 9};
        for (int gap : gaps) {
            b.then(three, x -> x.gap(gap), 2, x -> x.count(7), 0);
            b.then(marching, x -> x.gap(gap), 2, x -> x.count(7), 1);
            b.then(marching.and(x -> x.march(1)), x -> x.gap(gap), 2, x -> x.count(7), 2 + gap);
            b.then(marching.and(x -> x.march(1)), x -> x.gap(gap), 2, x -> x.march(2), 3 + 2 * gap);
        }
    }

    private static void countWhat() {
        b.sentence(36, "0 CHOIRS .. 10 SINGERS that are there. NONE");
        b.edges(Festival.RICH, (x, what) -> x.count(what), new int[] {0, 10}, new int[] {8, 39}, NONE);
        int[] due = {8, 4, 3, 3, 1, 4, 3, 13, 15, 3, 39};
        for (int what = 0; what <= 10; what++) {
            int asked = what;
            b.answers(Festival.RICH, x -> x.count(asked), due[what]);
            b.answers(Festival.EMPTY, x -> x.count(asked), 0);
        }
    }

    private static void countLimits() {
        b.sentence(36, "each of them at its most");
        Festival.Scene most = Festival.FULL.and(x -> {
            x.stage(8, 60);
            x.day(3);
            x.beds(6, 999);
            x.beds(7, 999);
            for (int choir = 0; choir < 16; choir++) {
                x.stand(choir, choir / 2, choir % 2 * 30);
                x.march(choir);
            }
            x.bed(65535);
            for (int i = 0; i < 15; i++) {
                x.feed(0, 8);
            }
        });
        int[] due = {16, 9, 6, 12, 3, 16, 16, 70, 120, 16, 136};
        for (int what = 0; what <= 10; what++) {
            int asked = what;
            b.answers(most, x -> x.count(asked), due[what]);
        }
    }

    private static void countThere() {
        b.sentence(36, "10 SINGERS that are there");
        Festival.Scene far = Festival.choirs(3).and(x -> x.choir(4, 0, 5, 2));
        b.answers(far, x -> x.count(10), 3);
        b.answers(far.and(x -> x.day(1)), x -> x.count(10), 3);
        b.answers(far.and(x -> x.day(2)), x -> x.count(10), 8);
        b.sentence(36, "9 CHOIRS that sleep somewhere");
        b.answers(far.and(x -> x.sleep(0, 1)), x -> x.count(9), 0);
        b.answers(far.and(x -> x.beds(1, 8)).and(x -> x.sleep(0, 1)).and(x -> x.sleep(1, 1)), x -> x.count(9), 2);
        b.answers(Festival.RICH.and(x -> x.sleep(1, -1)), x -> x.count(9), 2);
    }
}
