/** The edges that promises 17 to 23 and the document's section 3 name: the stage, blocks, laid ones. */
public final class BoundsOfStageTest {
    private static final int NONE = -1, BAD = -2, STATE = -3;
    private static final int LEAST = Integer.MIN_VALUE, MOST = Integer.MAX_VALUE;
    private static final Bounds b = new Bounds(17, 23);
    /** Two in each of eight rows, at either end. */
    private static final Festival.Scene SIXTEEN_STAND = Festival.FULL.and(x -> {
        x.stage(8, 60);
        for (int choir = 0; choir < 16; choir++) {
            x.stand(choir, choir / 2, choir % 2 == 0 ? 0 : 59 - choir);
        }
    });

    public static void main(String[] args) {
        stageNumbers();
        stageTaken();
        stageState();
        tallNumbers();
        tallAtFirst();
        standNone();
        standBeyond();
        standOnto();
        standAgain();
        standNotThere();
        standOrderOfRefusals();
        offSeconds();
        offState();
        offFrees();
        wellTaller();
        wellAhead();
        wellState();
        clearNone();
        clearDoors();
        clearSums();
        layRow();
        laySet();
        layStands();
        layNotThere();
        layNotFree();
        layTooMany();
        layFromPlaceZero();
        layLeast();
        layLesserFirst();
        layOrderOfRefusals();
        b.end();
    }

    private static Festival.Scene stage(int rows, int width, int... sizes) {
        return Festival.choirs(sizes).and(x -> x.stage(rows, width));
    }

    private static Festival.Scene stand(int choir, int row, int place) {
        return x -> x.stand(choir, row, place);
    }

    private static void stageNumbers() {
        b.sentence(17, "rows (1 .. 8)");
        b.range(Festival.choirs(1), (x, rows) -> x.stage(rows, 20), 1, 8, 0, BAD);
        b.sentence(17, "of WIDTH places (1 .. 60)");
        b.range(Festival.choirs(1), (x, width) -> x.stage(4, width), 1, 60, 0, BAD);
        b.refuses(Festival.choirs(1), x -> x.stage(0, 0), BAD);
        b.refuses(Festival.choirs(1), x -> x.stage(9, 61), BAD);
    }

    private static void stageTaken() {
        b.sentence(17, "THE STAGE has so many rows and places: 0");
        b.range(stage(8, 60, 1), (x, row) -> x.stand(0, row, 0), 0, 7, 0, NONE);
        b.range(stage(8, 60, 1), (x, place) -> x.stand(0, 7, place), 0, 59, 0, NONE);
        b.range(stage(1, 1, 1), (x, row) -> x.stand(0, row, 0), 0, 0, 0, NONE);
        b.range(stage(1, 1, 1), (x, place) -> x.stand(0, 0, place), 0, 0, 0, NONE);
        b.answers(stage(8, 60, 60), x -> x.stand(0, 7, 0), 0);
        b.refuses(stage(8, 60, 61), x -> x.stand(0, 7, 0), STATE);
        b.refuses(stage(1, 1, 2), x -> x.stand(0, 0, 0), STATE);
    }

    private static void stageState() {
        b.sentence(17, "BAD; STATE: some BLOCK stands");
        Festival.Scene one = Festival.choirs(1, 1).and(stand(1, 0, 0));
        b.refuses(one, x -> x.stage(4, 20), STATE);
        b.refuses(one, x -> x.stage(8, 60), STATE);
        b.refuses(one, x -> x.stage(0, 60), BAD);
        b.refuses(one, x -> x.stage(8, 61), BAD);
        b.refuses(Festival.RICH, x -> x.stage(8, 60), STATE);
        b.answers(one.and(x -> x.off(1)), x -> x.stage(8, 60), 0);
    }

    private static void tallNumbers() {
        b.sentence(18, "TALLER (told, 0 .. 9, of each CHOIR)");
        b.range(Festival.RICH, (x, t) -> x.tall(0, t), 0, 9, 7, BAD);
        b.sentence(18, "NONE; BAD");
        b.edges(Festival.RICH, (x, choir) -> x.tall(choir, 9), new int[] {0, 7}, new int[] {7, 5}, NONE);
        b.range(Festival.FULL, (x, choir) -> x.tall(choir, 0), 0, 15, 5, NONE);
        b.refuses(Festival.RICH, x -> x.tall(8, 10), NONE);
        b.refuses(Festival.RICH, x -> x.tall(-1, -1), NONE);
    }

    private static void tallAtFirst() {
        b.sentence(18, "5 at first");
        b.answers(Festival.choirs(1), x -> x.about(0, 4), 5);
        b.then(Festival.choirs(1), x -> x.tall(0, 0), 5, x -> x.tall(0, 9), 0);
        b.then(Festival.choirs(1), x -> x.tall(0, 9), 5, x -> x.about(0, 4), 9);
        b.answers(Festival.choirs(1, 1).and(x -> x.tall(0, 9)).and(x -> x.choir(5, 0, 0, 1)), x -> x.about(2, 4), 5);
    }

    private static void standNone() {
        b.sentence(19, "NONE: row, place");
        b.range(stage(3, 10, 1), (x, row) -> x.stand(0, row, 9), 0, 2, 0, NONE);
        b.range(stage(3, 10, 1), (x, place) -> x.stand(0, 2, place), 0, 9, 0, NONE);
        b.range(stage(3, 10, 4, 4), (x, choir) -> x.stand(choir, 2, 6), 0, 1, 0, NONE);
        b.range(stage(8, 60).and(Festival.FULL), (x, choir) -> x.stand(choir, 7, 44), 0, 15, 0, NONE);
        b.refuses(Festival.EMPTY, x -> x.stand(0, 0, 0), NONE);
    }

    private static void standBeyond() {
        b.sentence(19, "STATE: .. it goes beyond");
        b.answers(stage(3, 10, 4), x -> x.stand(0, 0, 6), 0);
        b.refuses(stage(3, 10, 4), x -> x.stand(0, 0, 7), STATE);
        b.refuses(stage(3, 10, 4), x -> x.stand(0, 0, 9), STATE);
        b.answers(stage(3, 10, 10), x -> x.stand(0, 0, 0), 0);
        b.refuses(stage(3, 10, 10), x -> x.stand(0, 0, 1), STATE);
        b.refuses(stage(3, 10, 11), x -> x.stand(0, 0, 0), STATE);
        Festival.Scene most = stage(8, 60).and(x -> {
            x.choir(0, 0, 99999999, 0);
            x.choir(0, 0, 99999999, 0);
            x.choir(5, 0, 0, 1);
        });
        b.refuses(most, x -> x.stand(2, 0, 0), STATE);
        b.refuses(most, x -> x.stand(2, 7, 59), STATE);
    }

    private static void standOnto() {
        b.sentence(19, "STATE: .. or onto another one (no two BLOCKS share one)");
        Festival.Scene middle = stage(3, 12, 3, 3, 1).and(stand(0, 1, 5));
        b.answers(middle, x -> x.stand(1, 1, 2), 0);
        b.refuses(middle, x -> x.stand(1, 1, 3), STATE);
        b.refuses(middle, x -> x.stand(1, 1, 5), STATE);
        b.refuses(middle, x -> x.stand(1, 1, 7), STATE);
        b.answers(middle, x -> x.stand(1, 1, 8), 0);
        b.answers(middle, x -> x.stand(2, 1, 4), 0);
        b.refuses(middle, x -> x.stand(2, 1, 5), STATE);
        b.refuses(middle, x -> x.stand(2, 1, 6), STATE);
        b.refuses(middle, x -> x.stand(2, 1, 7), STATE);
        b.answers(middle, x -> x.stand(2, 1, 8), 0);
        b.answers(middle, x -> x.stand(1, 0, 5), 0);
        b.answers(middle, x -> x.stand(1, 2, 5), 0);
        Festival.Scene small = stage(1, 12, 12, 1).and(stand(1, 0, 6));
        b.refuses(small, x -> x.stand(0, 0, 0), STATE);
        b.answers(small.and(x -> x.off(1)), x -> x.stand(0, 0, 0), 0);
    }

    private static void standAgain() {
        b.sentence(19, "STATE: it stands");
        Festival.Scene one = stage(3, 10, 2).and(stand(0, 1, 4));
        b.refuses(one, x -> x.stand(0, 1, 4), STATE);
        b.refuses(one, x -> x.stand(0, 0, 0), STATE);
        b.refuses(one, x -> x.stand(0, 1, 6), STATE);
        b.answers(one.and(x -> x.off(0)), x -> x.stand(0, 1, 4), 0);
    }

    private static void standNotThere() {
        b.sentence(19, "STATE: .. it is not there");
        Festival.Scene far = x -> {
            x.choir(4, 0, 1, 2);
            x.choir(0, 0, 1, 0);
            x.choir(5, 0, 0, 16);
        };
        for (int choir = 0; choir <= 2; choir += 2) {
            int asked = choir;
            b.refuses(far, x -> x.stand(asked, 0, 0), STATE);
            b.refuses(far.and(x -> x.day(1)), x -> x.stand(asked, 0, 0), STATE);
            b.answers(far.and(x -> x.day(2)), x -> x.stand(asked, 0, 0), 0);
        }
    }

    private static void standOrderOfRefusals() {
        b.sentence(19, "NONE ahead of STATE");
        b.refuses(Festival.RICH, x -> x.stand(0, 5, 0), NONE);
        b.refuses(Festival.RICH, x -> x.stand(0, 0, 30), NONE);
        b.refuses(Festival.RICH, x -> x.stand(5, -1, 0), NONE);
        b.refuses(Festival.RICH, x -> x.stand(5, 0, -1), NONE);
        b.refuses(Festival.RICH, x -> x.stand(8, 0, 19), NONE);
        b.refuses(Festival.RICH, x -> x.stand(5, 0, 0), STATE);
    }

    private static void offSeconds() {
        b.sentence(20, "by the DOOR that is nearer .. steps and SINGERS together in seconds");
        int[] places = {0, 1, 7, 8, 9, 15, 16};
        int[] even = {4, 5, 11, 12, 11, 5, 4};
        int[] odd = {4, 5, 11, 12, 12, 6, 5};
        for (int i = 0; i < places.length; i++) {
            int place = places[i];
            b.answers(stage(4, 20, 4).and(stand(0, 0, place)), x -> x.off(0), even[i]);
            b.answers(stage(4, 21, 4).and(stand(0, 3, place)), x -> x.off(0), odd[i]);
        }
        b.answers(stage(1, 1, 1).and(stand(0, 0, 0)), x -> x.off(0), 1);
        b.answers(stage(8, 60, 60).and(stand(0, 7, 0)), x -> x.off(0), 60);
        b.answers(stage(8, 60, 1).and(stand(0, 7, 29)), x -> x.off(0), 30);
        b.answers(stage(8, 60, 1).and(stand(0, 7, 30)), x -> x.off(0), 30);
    }

    private static void offState() {
        b.sentence(20, "NONE; STATE: it does not stand");
        b.edges(Festival.RICH, (x, choir) -> x.off(choir), new int[] {0, 7}, new int[] {5, 11}, NONE);
        b.refuses(Festival.RICH, x -> x.off(3), STATE);
        b.refuses(Festival.RICH, x -> x.off(5), STATE);
        b.refuses(Festival.RICH.and(x -> x.off(7)), x -> x.off(7), STATE);
        b.refuses(Festival.FULL, x -> x.off(15), STATE);
        b.refuses(Festival.FULL, x -> x.off(16), NONE);
    }

    private static void offFrees() {
        b.sentence(20, "A BLOCK goes off");
        b.then(Festival.RICH, x -> x.off(7), 11, x -> x.count(5), 3);
        b.then(stage(1, 2, 2, 2).and(stand(0, 0, 0)), x -> x.off(0), 2, x -> x.stand(1, 0, 0), 0);
    }

    private static void wellTaller() {
        b.sentence(21, "It STANDS well if none that is TALLER");
        Festival.Scene two = Festival.choirs(1, 1).and(stand(0, 1, 0)).and(stand(1, 0, 0));
        for (int ahead = 0; ahead <= 9; ahead++) {
            for (int own = 0; own <= 9; own++) {
                int[] tall = {own, ahead};
                Festival.Scene told = two.and(x -> x.tall(0, tall[0])).and(x -> x.tall(1, tall[1]));
                b.answers(told, x -> x.well(0), ahead > own ? 0 : 1);
                b.answers(told, x -> x.well(1), 1);
            }
        }
    }

    private static void wellAhead() {
        b.sentence(21, "stands in a row ahead of it");
        for (int row = 0; row <= 7; row++) {
            int other = row;
            Festival.Scene two = stage(8, 20, 1, 1).and(stand(0, 3, 0)).and(x -> x.tall(1, 6));
            b.answers(two.and(stand(1, other, 19)), x -> x.well(0), row < 3 ? 0 : 1);
        }
        b.answers(SIXTEEN_STAND, x -> x.well(15), 1);
        b.answers(SIXTEEN_STAND.and(x -> x.tall(14, 6)), x -> x.well(15), 1);
        b.answers(SIXTEEN_STAND.and(x -> x.tall(13, 6)), x -> x.well(15), 0);
        b.answers(SIXTEEN_STAND.and(x -> x.tall(0, 6)), x -> x.well(15), 0);
        Festival.Scene gone = Festival.choirs(1, 1).and(stand(0, 1, 0)).and(x -> x.tall(1, 9));
        b.answers(gone, x -> x.well(0), 1);
        b.answers(gone.and(stand(1, 0, 0)).and(x -> x.off(1)), x -> x.well(0), 1);
    }

    private static void wellState() {
        b.sentence(21, "NONE; STATE: it does not stand");
        b.edges(Festival.RICH, (x, choir) -> x.well(choir), new int[] {0, 7}, new int[] {1, 1}, NONE);
        b.answers(Festival.RICH, x -> x.well(1), 0);
        b.answers(Festival.RICH, x -> x.well(2), 0);
        b.refuses(Festival.RICH, x -> x.well(3), STATE);
        b.refuses(Festival.RICH.and(x -> x.off(0)), x -> x.well(0), STATE);
        b.refuses(Festival.FULL, x -> x.well(15), STATE);
        b.refuses(Festival.FULL, x -> x.well(16), NONE);
    }

    private static void clearNone() {
        b.sentence(22, "CLEAR, of all BLOCKS: none");
        b.answers(Festival.EMPTY, x -> x.clear(), 0);
        b.answers(Festival.FULL, x -> x.clear(), 0);
        b.answers(Festival.choirs(4).and(stand(0, 3, 9)).and(x -> x.off(0)), x -> x.clear(), 0);
    }

    private static void clearDoors() {
        b.sentence(22, "left: as many steps as places left of it; right: right of it (left if alike)");
        // One at either DOOR, with 4 seconds each; when it goes, the sum shows by which the third one goes.
        Festival.Scene both = stage(4, 20, 4, 4, 4).and(stand(0, 0, 0)).and(stand(1, 0, 16));
        b.answers(both, x -> x.clear(), 4);
        b.answers(both.and(stand(2, 1, 8)), x -> x.clear(), 16);
        b.answers(both.and(stand(2, 1, 8)).and(x -> x.off(0)), x -> x.clear(), 12);
        b.answers(both.and(stand(2, 1, 8)).and(x -> x.off(1)), x -> x.clear(), 16);
        b.answers(both.and(stand(2, 1, 9)).and(x -> x.off(0)), x -> x.clear(), 15);
        b.answers(both.and(stand(2, 1, 9)).and(x -> x.off(1)), x -> x.clear(), 11);
        b.answers(both.and(stand(2, 1, 7)).and(x -> x.off(0)), x -> x.clear(), 11);
        b.answers(both.and(stand(2, 1, 7)).and(x -> x.off(1)), x -> x.clear(), 15);
        b.answers(stage(1, 2, 2).and(stand(0, 0, 0)), x -> x.clear(), 2);
    }

    private static void clearSums() {
        b.sentence(22, "By one DOOR the BLOCKS go off one behind the other: CLEAR is the greater of both sums");
        b.answers(Festival.RICH, x -> x.clear(), 16);
        b.answers(Festival.RICH.and(x -> x.off(0)), x -> x.clear(), 11);
        b.answers(Festival.RICH.and(x -> x.off(2)), x -> x.clear(), 13);
        b.answers(Festival.RICH.and(x -> x.off(7)), x -> x.clear(), 16);
        // 1 + 3 + .. + 15 at the left DOOR, 2 + 4 + .. + 16 at the right one
        b.answers(SIXTEEN_STAND, x -> x.count(5), 16);
        b.answers(SIXTEEN_STAND, x -> x.clear(), 72);
        b.answers(SIXTEEN_STAND.and(x -> x.off(15)), x -> x.clear(), 64);
    }

    private static void layRow() {
        b.sentence(23, "NONE: row");
        b.range(stage(3, 20, 1), (x, row) -> x.lay(row, 1), 0, 2, 1, NONE);
        b.range(stage(8, 60, 1), (x, row) -> x.lay(row, 1), 0, 7, 1, NONE);
    }

    private static void laySet() {
        b.sentence(23, "BAD: the set: CHOIRS of a set (1 to 4 ..)");
        Festival.Scene five = Festival.choirs(1, 1, 1, 1, 1);
        int[] sets = {1, 16, 3, 24, 7, 28, 15, 30};
        int[] seconds = {1, 1, 3, 3, 6, 6, 10, 10};
        for (int i = 0; i < sets.length; i++) {
            int set = sets[i];
            b.then(five, x -> x.lay(0, set), seconds[i], x -> x.count(5), Integer.bitCount(set));
        }
        int[] bad = {0, 31, 32, 33, 63, LEAST, LEAST + 1, -1, MOST, 1 << 16, 1 << 30};
        for (int set : bad) {
            b.refuses(five, x -> x.lay(0, set), BAD);
        }
        Festival.Scene sixteen = stage(8, 60).and(Festival.FULL);
        b.answers(sixteen, x -> x.lay(0, 1 << 15), 16);
        b.refuses(sixteen, x -> x.lay(0, 1 << 16), BAD);
        b.refuses(sixteen, x -> x.lay(0, 1 << 16 | 1), BAD);
        b.refuses(sixteen, x -> x.lay(0, 65535), BAD);
        b.refuses(Festival.EMPTY, x -> x.lay(0, 1), BAD);
    }

    private static void layStands() {
        b.sentence(23, "STATE: one stands");
        Festival.Scene one = Festival.choirs(1, 1, 1, 1).and(stand(3, 2, 9));
        b.refuses(one, x -> x.lay(0, 8), STATE);
        b.refuses(one, x -> x.lay(0, 9), STATE);
        b.refuses(one, x -> x.lay(0, 15), STATE);
        b.answers(one, x -> x.lay(0, 7), 6);
        b.answers(one.and(x -> x.off(3)), x -> x.lay(0, 15), 10);
        b.refuses(Festival.choirs(1, 1).and(stand(0, 2, 9)), x -> x.lay(0, 1), STATE);
        b.refuses(Festival.choirs(1, 1).and(stand(0, 2, 9)), x -> x.lay(0, 3), STATE);
    }

    private static void layNotThere() {
        b.sentence(23, "STATE: .. is not there");
        Festival.Scene far = x -> {
            x.choir(0, 0, 1, 0);
            x.choir(4, 0, 1, 2);
            x.choir(5, 0, 0, 1);
        };
        int[] sets = {2, 3, 4, 5, 7};
        int[] seconds = {1, 3, 2, 4, 7};
        for (int i = 0; i < sets.length; i++) {
            int set = sets[i];
            b.refuses(far.and(x -> x.day(1)), x -> x.lay(0, set), STATE);
            b.answers(far.and(x -> x.day(2)), x -> x.lay(0, set), seconds[i]);
        }
        b.refuses(x -> x.choir(4, 0, 1, 1), x -> x.lay(0, 1), STATE);
    }

    private static void layNotFree() {
        b.sentence(23, "STATE: .. the row is not free");
        int[] places = {0, 9, 19};
        for (int place : places) {
            Festival.Scene one = Festival.choirs(1, 1).and(stand(1, 2, place));
            b.refuses(one, x -> x.lay(2, 1), STATE);
            b.answers(one, x -> x.lay(1, 1), 1);
            b.answers(one, x -> x.lay(3, 1), 1);
            b.answers(one.and(x -> x.off(1)), x -> x.lay(2, 1), 1);
        }
        b.refuses(Festival.choirs(1, 1).and(x -> x.lay(0, 1)), x -> x.lay(0, 2), STATE);
    }

    private static void layTooMany() {
        b.sentence(23, "STATE: .. they are too many");
        b.answers(stage(1, 10, 10), x -> x.lay(0, 1), 10);
        b.refuses(stage(1, 10, 11), x -> x.lay(0, 1), STATE);
        b.answers(stage(1, 10, 1, 2, 3, 4), x -> x.lay(0, 15), 7);
        b.refuses(stage(1, 10, 2, 2, 3, 4), x -> x.lay(0, 15), STATE);
        b.answers(stage(1, 1, 1), x -> x.lay(0, 1), 1);
        b.refuses(stage(1, 1, 1, 1), x -> x.lay(0, 3), STATE);
        b.answers(stage(8, 60, 30, 30), x -> x.lay(7, 3), 30);
        b.refuses(stage(8, 60, 30, 31), x -> x.lay(7, 3), STATE);
    }

    /** The first place of each CHOIR of the set 0 .. n - 1 that is laid in row 0, and CLEAR. */
    private static void laid(Festival.Scene scene, int clear, int... places) {
        int set = (1 << places.length) - 1;
        b.answers(scene, x -> x.lay(0, set), clear);
        for (int i = 0; i < places.length; i++) {
            int choir = i;
            b.answers(scene.and(x -> x.lay(0, set)), x -> x.about(choir, 7), places[i]);
            b.answers(scene.and(x -> x.lay(0, set)), x -> x.about(choir, 6), 0);
        }
    }

    private static void layFromPlaceZero() {
        b.sentence(23, "one beside the other from place 0 on");
        laid(stage(4, 20, 1), 1, 0);
        laid(stage(4, 20, 20), 20, 0);
        laid(stage(4, 20, 5, 5, 5, 5), 15, 0, 5, 10, 15);
        laid(stage(4, 21, 5, 5, 5, 5), 17, 0, 5, 10, 15);
    }

    private static void layLeast() {
        b.sentence(23, "in that order of which all there are CLEAR (of these BLOCKS alone) is least");
        laid(stage(4, 20, 9, 1), 11, 1, 0);
        laid(stage(4, 20, 1, 9), 11, 0, 1);
        laid(stage(4, 20, 5, 10), 10, 10, 0);
        laid(stage(4, 20, 10, 5), 10, 0, 10);
        laid(stage(4, 60, 4, 3, 2, 1), 20, 6, 3, 1, 0);
        layEachLine();
        Festival.Scene other = stage(4, 20, 9, 1, 20).and(stand(2, 3, 0));
        b.then(other, x -> x.lay(0, 3), 11, x -> x.clear(), 31);
    }

    /** On a wide stage all go off left, least with the smaller ones first: each line of four is once the best. */
    private static void layEachLine() {
        for (int line = 0; line < 256; line++) {
            int[] rank = {line & 3, line >> 2 & 3, line >> 4 & 3, line >> 6};
            int[] places = new int[4];
            int ranks = 0;
            for (int i = 0; i < 4; i++) {
                ranks |= 1 << rank[i];
                places[i] = rank[i] * (rank[i] + 1) / 2;
            }
            if (ranks == 15) {
                laid(stage(4, 60, rank[0] + 1, rank[1] + 1, rank[2] + 1, rank[3] + 1), 20, places);
            }
        }
    }

    private static void layLesserFirst() {
        b.sentence(23, "of several the one with the lesser CHOIR first");
        laid(stage(1, 10, 4, 6), 6, 0, 4);
        laid(stage(1, 10, 6, 4), 6, 0, 6);
        laid(stage(1, 4, 2, 1, 1), 3, 0, 2, 3);
        laid(stage(1, 60, 2, 2, 2, 2), 20, 0, 2, 4, 6);
    }

    private static void layOrderOfRefusals() {
        b.sentence(23, "NONE: row; BAD: the set; STATE");
        b.refuses(Festival.RICH, x -> x.lay(5, 0), NONE);
        b.refuses(Festival.RICH, x -> x.lay(-1, 1), NONE);
        b.refuses(Festival.RICH, x -> x.lay(1, 0), BAD);
        b.refuses(Festival.RICH, x -> x.lay(1, 257), BAD);
        b.refuses(Festival.RICH, x -> x.lay(1, 31), BAD);
        b.refuses(Festival.RICH, x -> x.lay(1, 8), STATE);
        b.answers(Festival.RICH, x -> x.lay(3, 8), 4);
    }
}
