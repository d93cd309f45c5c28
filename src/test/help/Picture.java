import java.util.ArrayList;
import java.util.List;

/**
 * All that calls can show of a festival. Some of them change it and an object is good for 512 calls
 * alone, so that each look is taken at an object of its own.
 */
final class Picture {
    private interface Look {
        void at(SongField x, List<Integer> seen);
    }

    private static final Look[] LOOKS = {
        Picture::choirs, Picture::whoMay, Picture::marks, Picture::tapeAsRule, Picture::tapeAndMore,
        Picture::songs, Picture::bedsAndMarch, Picture::size, Picture::busy, Picture::next,
    };
    private static final String[] NAMES = {
        "choirs and counts", "who may", "marks", "the tape as a rule", "the tape and one byte more",
        "songs and halls", "beds and the march", "the size of the stage", "busy choirs", "what comes next",
    };

    private Picture() {
    }

    /** Where two festivals differ; null if nowhere. */
    static String difference(Festival.Scene one, Festival.Scene other) {
        for (int i = 0; i < LOOKS.length; i++) {
            List<Integer> first = look(LOOKS[i], one);
            List<Integer> second = look(LOOKS[i], other);
            if (!first.equals(second)) {
                return NAMES[i] + ": " + first + " and " + second;
            }
        }
        return null;
    }

    private static List<Integer> look(Look look, Festival.Scene scene) {
        SongField x = new SongField();
        scene.tell(x);
        List<Integer> seen = new ArrayList<>();
        look.at(x, seen);
        return seen;
    }

    private static void choirs(SongField x, List<Integer> seen) {
        for (int what = 0; what <= 10; what++) {
            seen.add(x.count(what));
        }
        seen.add(x.clear());
        for (int choir = 0; choir < 16; choir++) {
            for (int what = 0; what <= 8; what++) {
                seen.add(x.about(choir, what));
            }
            for (int v = 0; v < 4; v++) {
                seen.add(x.voice(choir, v));
            }
            seen.add(x.well(choir));
        }
    }

    private static void whoMay(SongField x, List<Integer> seen) {
        for (int choir = 0; choir < 16; choir++) {
            for (int song = 0; song < 9; song++) {
                seen.add(x.may(choir, song));
                seen.add(x.why(choir, song));
            }
        }
    }

    private static void marks(SongField x, List<Integer> seen) {
        for (int choir = 0; choir < 16; choir++) {
            seen.add(x.mean(choir));
        }
        for (int judge = 0; judge < 6; judge++) {
            for (int other = 0; other < 6; other++) {
                seen.add(x.scale(judge, other));
            }
            for (int choir = 0; choir < 16; choir++) {
                seen.add(x.mark(judge, choir, 50));
            }
        }
    }

    private static void tapeAsRule(SongField x, List<Integer> seen) {
        seen.add(x.rule());
        whoMay(x, seen);
    }

    private static void tapeAndMore(SongField x, List<Integer> seen) {
        seen.add(x.feed('x', 1));
        seen.add(x.rule());
    }

    private static void songs(SongField x, List<Integer> seen) {
        for (int i = 0; i < 9; i++) {
            seen.add(x.ordered(i));
            seen.add(x.leader(i));
            seen.add(x.whole(i));
            for (int other = 0; other < 9; other++) {
                seen.add(x.change(i, other));
            }
        }
        for (int hall = 0; hall < 4; hall++) {
            for (int hour = 0; hour < 24; hour++) {
                seen.add(x.hall(hall, hour));
            }
        }
    }

    private static void bedsAndMarch(SongField x, List<Integer> seen) {
        for (int town = 0; town < 8; town++) {
            seen.add(x.beds(town, 999));
        }
        for (int choir = 0; choir < 16; choir++) {
            seen.add(x.leave(choir));
        }
        seen.add(x.gap(0));
        seen.add(x.day(3));
    }

    /** A row or place that is not there is NONE, whatever else keeps the choir from standing. */
    private static void size(SongField x, List<Integer> seen) {
        x.choir(0, 0, 1, 0);
        for (int choir = 0; choir < 16; choir++) {
            x.off(choir);
        }
        for (int row = 0; row <= 8; row++) {
            seen.add(x.stand(0, row, 0));
            x.off(0);
        }
        for (int place = 0; place <= 60; place++) {
            seen.add(x.stand(0, 0, place));
            x.off(0);
        }
    }

    /** Hour by hour who is free for one hall more; which songs are whole then tells who rehearsed. */
    private static void busy(SongField x, List<Integer> seen) {
        int[] hours = {0, 1, 22, 23};
        for (int hour : hours) {
            for (int choir = 0; choir < 16; choir++) {
                seen.add(x.rehearse(2, hour, 0, 1 << choir));
                seen.add(x.rehearse(choir % 4, hour, choir % 9, 1 << choir));
                seen.add(x.whole(choir % 9));
            }
        }
    }

    private static void next(SongField x, List<Integer> seen) {
        seen.add(x.song(63, 8, 0, 1));
        seen.add(x.judge(6));
        seen.add(x.choir(5, 0, 0, 1));
        seen.add(x.choir(0, 0, 1, 0));
        seen.add(x.bed(1));
        seen.add(x.order(1));
    }
}
