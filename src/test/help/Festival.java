/** Festivals that several tests begin with. */
final class Festival {
    /** What is told to a new object ahead of the call that is looked at. */
    interface Scene {
        void tell(SongField x);

        default Scene and(Scene next) {
            return x -> {
                tell(x);
                next.tell(x);
            };
        }
    }

    static final Scene EMPTY = x -> { };

    /** Something of everything, so that a refused call that changes anything is found out. */
    static final Scene RICH = ((Scene) Festival::richChoirs).and(Festival::richRules).and(Festival::richStage)
            .and(Festival::richRest);
    static final int RICH_CHOIRS = 8, RICH_SONGS = 4, RICH_JUDGES = 3;

    /** As many of each as there may be. */
    static final Scene FULL = x -> {
        for (int choir = 0; choir < 16; choir++) {
            x.choir(0, choir % 8, choir + 1, 0);
        }
        for (int song = 0; song < 9; song++) {
            x.song(1, 8, song, 1);
        }
        for (int judge = 0; judge < 6; judge++) {
            x.judge(judge);
        }
        for (int rule = 0; rule < 12; rule++) {
            rule(x, "let *");
        }
    };

    private Festival() {
    }

    /** MIXED CHOIRS of TOWN 0, with so many SINGERS (99 at most), all of VOICE 3. */
    static Scene choirs(int... sizes) {
        return x -> {
            for (int size : sizes) {
                x.choir(0, 0, size, 0);
            }
        };
    }

    /** So many SONGS that each CHOIR with VOICE 3 may sing. */
    static Scene songs(int n) {
        return x -> {
            for (int song = 0; song < n; song++) {
                x.song(63, 8, 0, 1);
            }
        };
    }

    static Scene rules(String... texts) {
        return x -> {
            for (String text : texts) {
                rule(x, text);
            }
        };
    }

    /** The text on the tape, 8 bytes a call; answers what the last feed answered. */
    static int feedText(SongField x, String text) {
        int last = 0;
        for (int i = 0; i < text.length(); i += 8) {
            int n = Math.min(8, text.length() - i);
            long w = 0;
            for (int k = 0; k < n; k++) {
                w = w << 8 | text.charAt(i + k);
            }
            last = x.feed(w, n);
        }
        return last;
    }

    static int rule(SongField x, String text) {
        feedText(x, text);
        return x.rule();
    }

    private static void richChoirs(SongField x) {
        x.choir(0, 0, 3, 0);
        x.choir(1, 1, 203, 0);
        x.choir(2, 2, 2010000, 0);
        x.choir(3, 3, 1010101, 0);
        x.choir(4, 4, 1010102, 1);
        x.choir(4, 5, 6, 3);
        x.choir(5, 7, 0, 16 * 4);
        x.choir(0, 6, 11, 0);
        x.song(63, 8, 5, 3);
        x.song(3, 8, 2, 4);
        x.song(8, 1, 0, 30);
        x.song(63, 15, 9, 1);
        x.judge(0);
        x.judge(5);
        x.judge(7);
        x.mark(1, 0, 70);
        x.mark(2, 0, 61);
        x.mark(0, 1, 30);
        x.mark(1, 3, 100);
        x.mark(2, 7, 0);
        x.day(1);
    }

    private static void richRules(SongField x) {
        rule(x, "bar 1 if mark<40");
        rule(x, "let * if hard<3");
        rule(x, "bar 3 if hard>5 and day=1");
        feedText(x, "bar 0 if hard=5");
        x.vote(0, 3);
        x.vote(1, 7);
        x.vote(7, 0);
    }

    private static void richStage(SongField x) {
        x.stage(5, 30);
        x.tall(0, 7);
        x.tall(2, 0);
        x.stand(0, 1, 2);
        x.lay(2, 6);
        x.stand(7, 0, 19);
    }

    private static void richRest(SongField x) {
        x.order(7);
        x.rehearse(0, 0, 0, 129);
        x.rehearse(3, 23, 2, 8);
        x.rehearse(1, 23, 1, 2);
        x.beds(0, 20);
        x.beds(3, 9);
        x.beds(7, 999);
        x.sleep(1, 0);
        x.sleep(0, 3);
        x.sleep(4, 7);
        x.march(7);
        x.march(0);
        x.march(3);
        x.gap(4);
    }
}
