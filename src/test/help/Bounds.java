/**
 * Tests at the edges, each for one sentence of the document. Every call is made on an object of its
 * own; a refused one must leave it as if the call had not been made.
 */
final class Bounds {
    interface Call {
        int on(SongField x);
    }

    interface NumberCall {
        int on(SongField x, int number);
    }

    private final int first;
    private final boolean[] told;
    private String sentence = "";
    private int checks = 0;
    private int wrong = 0;

    /** The promises that the test must have a sentence of. */
    Bounds(int first, int last) {
        this.first = first;
        told = new boolean[last - first + 1];
    }

    void sentence(int promise, String words) {
        sentence = "promise " + promise + ", \"" + words + "\"";
        told[promise - first] = true;
    }

    void answers(Festival.Scene scene, Call call, int due) {
        SongField x = new SongField();
        scene.tell(x);
        check(call.on(x), due);
    }

    /** What a call answers, and what another one answers then. */
    void then(Festival.Scene scene, Call call, int due, Call next, int dueThen) {
        answers(scene, call, due);
        answers(scene.and(call::on), next, dueThen);
    }

    void refuses(Festival.Scene scene, Call call, int due) {
        answers(scene, call, due);
        String difference = Picture.difference(scene, scene.and(call::on));
        if (difference != null) {
            fail("a refused call changed " + difference);
        }
    }

    /** The last numbers that are taken and the first that are refused, on either side. */
    void range(Festival.Scene scene, NumberCall call, int least, int most, int due, int refusal) {
        edges(scene, call, new int[] {least, most}, new int[] {due, due}, refusal);
    }

    /** As range, with an answer of its own at either end. */
    void edges(Festival.Scene scene, NumberCall call, int[] ends, int[] dues, int refusal) {
        for (int i = 0; i < 2; i++) {
            int end = ends[i];
            answers(scene, x -> call.on(x, end), dues[i]);
        }
        int[] outside = {ends[0] - 1, ends[1] + 1, Integer.MIN_VALUE, Integer.MAX_VALUE};
        for (int number : outside) {
            refuses(scene, x -> call.on(x, number), refusal);
        }
    }

    void end() {
        for (int i = 0; i < told.length; i++) {
            if (!told[i]) {
                wrong++;
                System.out.println("no sentence of promise " + (first + i));
            }
        }
        System.out.println(wrong == 0 ? "all " + checks + " answers are as due" : wrong + " answers are not as due");
        if (wrong != 0) {
            System.exit(1);
        }
    }

    private void check(int got, int due) {
        checks++;
        if (got != due) {
            fail("answered " + got + ", due is " + due);
        }
    }

    private void fail(String what) {
        wrong++;
        System.out.println(sentence + ", line " + lineOfTest() + ": " + what);
    }

    private static int lineOfTest() {
        for (StackTraceElement frame : new Throwable().getStackTrace()) {
            if (!frame.getClassName().equals("Bounds")) {
                return frame.getLineNumber();
            }
        }
        return 0;
    }
}
