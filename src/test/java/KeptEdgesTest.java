/** The boundary cases of the document's part 4 (kinds, images, what is gone when the text is read anew), promises 25 to 29. */
public final class KeptEdgesTest {
    private static final int BAD = PetalWheels.BAD;
    private static final int STATE = PetalWheels.STATE;
    private static final int NONE = PetalWheels.NONE;
    private static final int NO = PetalWheels.NO;

    private static final Checks is = new Checks();

    public static void main(String[] args) {
        constants();
        markNumbers();
        markAtEdges();
        traceCounts();
        traceStays();
        imageNumbers();
        imageNone();
        imageKeepsNow();
        imageKeepsUndone();
        imageKeepsNothingElse();
        imagesApart();
        readAnewAsTold();
        readAnewNothingLeft();
        readAnewByNothing();
        counted();
        is.end();
    }

    private static Run told(String text) {
        return Run.fresh(is).told(text);
    }

    private static void constants() {
        is.about("NO = -1000000: What none is, where a number may be below 0.");
        is.due("NO", PetalWheels.NO, -1000000);
        is.due("BAD", PetalWheels.BAD, -1);
        is.due("STATE", PetalWheels.STATE, -2);
        is.due("FULL", PetalWheels.FULL, -3);
        is.due("NONE", PetalWheels.NONE, -9);
    }

    private static void markNumbers() {
        is.about("MARK. NO: BAD.");
        for (int kind = 0; kind <= 5; kind++) {
            Run.fresh(is).refuses("mark " + kind + " 0", NO);
            Rich.run(is).bounds("mark " + kind + " #", 0, 1, NO);
        }
        Rich.run(is).bounds("mark # 0", 0, 5, NO).bounds("mark # 1", 0, 5, NO).refuses("mark 6 2", NO).refuses("mark -1 -1", NO);
        Run twelve = told("r12;w3;p999;").times(12, "draws 0 0 1 0 0").bounds("mark 4 #", 0, 11, NO);
        twelve.due("mark 4 0", 3).due("mark 4 11", 14).then("rubs 0").bounds("mark 4 #", 0, 10, NO).due("mark 4 10", 13);
    }

    private static void markAtEdges() {
        is.about("CURVE its PETALS (1). ROSE up, and its HOLE (10). WEB up less its ROUNDS (100). BOUQUET up times 2 (1000). "
            + "LACE up, and its number (10000). STAR up, and its START (100000).");
        Run run = told("r120;r12;w60;w7;w11;p999;");
        run.then("draws 0 0 9 119 0").due("mark 0 0", 2).due("mark 1 0", 11).due("mark 2 0", 1).due("mark 3 0", 22)
            .due("mark 4 0", 1).due("mark 5 0", 121);
        run.then("draws 0 1 1 0 0").due("mark 0 0", 120).due("mark 1 0", 121).due("mark 2 0", 113).due("mark 3 0", 242)
            .due("mark 4 0", 113).due("mark 5 0", 120);
        run.then("draws 1 2 1 11 0").due("mark 0 0", 12).due("mark 2 0", 1).due("mark 5 0", 23);
    }

    private static void traceCounts() {
        is.about("numbers in brackets come to THE TRACE as often as mark() asks that body");
        long[] asks = {1, 11, 101, 1011, 10101, 100001};
        Run run = told("r12;w3;p999;").then("draws 0 0 1 0 0").due("trace", 0);
        for (int kind = 0; kind <= 5; kind++) {
            run.then("mark " + kind + " 0").due("trace", asks[kind]);
            run.times(400, "mark " + kind + " 0").due("trace", 400 * asks[kind]);
        }
        run.refuses("mark 6 0", NO).refuses("mark 5 1", NO).then("mark 5 0").refuses("mark 5 -1", NO).due("trace", 100001);
        // It changes nothing but THE TRACE: it may as well be asked later.
        run.then("mark 3 0", "spins 5", "keep 0").isAs("asked earlier", run.then("spins 5", "keep 0", "mark 3 0"));
    }

    private static void traceStays() {
        is.about("IMAGES 0, 1 keep NOW .. nothing else: THE TRACE goes on");
        Run run = told("r12;w3;p999;").then("draws 0 0 1 0 0", "keep 0", "mark 5 0").due("trace", 100001);
        run.then("back 0").due("trace", 100001);
        run.then("undo").due("trace", 100001);
        run.then("forget", "clear").due("trace", 100001);
        run.then("box").due("trace", 100001);
        run.told("r12;w3;p999;").then("draws 0 0 1 0 0", "mark 0 0").due("trace", 100002);
    }

    private static void imageNumbers() {
        is.about("IMAGES 0, 1");
        Run.fresh(is).bounds("keep #", 0, 1, BAD).bounds("back #", 0, 1, BAD);
        Rich.run(is).bounds("keep #", 0, 1, BAD).bounds("back #", 0, 1, BAD);
        Run.fresh(is).due("keep 0", 0).due("keep 1", 0);
        told("r12;w3;p999;").times(12, "draws 0 0 1 0 0").due("keep 0", 12).due("keep 1", 12).then("keep 1", "rubs 0").due("back 1", 12);
    }

    private static void imageNone() {
        is.about("BAD; STATE: none was kept.");
        Run.fresh(is).refuses("back 0", STATE).refuses("back 1", STATE).refuses("back 2", BAD).refuses("back -1", BAD);
        Run.fresh(is).then("keep 0").due("back 0", 0).refuses("back 1", STATE).refuses("back 2", BAD);
        Run.fresh(is).then("keep 1").due("back 1", 0).refuses("back 0", STATE).refuses("back -1", BAD);
        told(Rich.TEXT).then("draws 0 0 1 0 0", "spins 9").refuses("back 0", STATE).refuses("back 1", STATE);
    }

    private static void imageKeepsNow() {
        is.about("All of that becomes as an IMAGE has it: CURVES.");
        Run kept = told(Rich.TEXT).then("draws 0 0 1 0 0", "draws 0 1 1 1 1", "spins 359", "keep 0", "keep 1").due("keep 0", 2);
        String[] changes = {"draws 1 3 9 23 0", "rubs 0", "rubs 1", "spins 1", "fills 1 999", "undo"};
        for (int image = 0; image <= 1; image++) {
            for (String call : changes) {
                kept.then(call).due("back " + image, 2).then("back " + image).isAs(call + " is gone", kept);
            }
            kept.due("back " + image, 2).isAskedFreely("back " + image);
            kept.then("undo", "undo", "undo").due("now 1", 0).then("back " + image).isAs("what was undone is there again", kept);
            kept.then("rubs 0", "rubs 0").due("back " + image, 2);
        }
        Run none = told(Rich.TEXT).then("keep 0");
        none.times(12, "draws 0 0 1 0 0").due("back 0", 0).then("back 0").isAs("no curves were kept", none);
    }

    private static void imageKeepsUndone() {
        is.about("what may be UNDONE");
        Run none = told("r12;w3;p999;").then("keep 0").times(11, "spins 3").due("count 4", 10).then("back 0").due("count 4", 0);
        none.refuses("undo", STATE).then("spins 1").due("undo", 0);
        Run ten = told("r12;w3;p999;").times(11, "spins 3").then("keep 1").times(12, "draws 0 0 1 0 0").then("back 1");
        ten.due("count 4", 10).due("undo", 9).times(10, "undo").due("now 0", 3).refuses("undo", STATE);
        Run two = told("r12;w3;p999;").then("spins 1", "spins 2", "keep 0", "undo", "undo", "spins 50", "keep 1", "back 0");
        two.due("count 4", 2).then("undo").due("now 0", 1).then("undo").due("now 0", 0);
        two.then("back 1").due("count 4", 1).due("now 0", 50).then("undo").due("now 0", 0).refuses("undo", STATE);
        // To go back is no change that could be undone.
        two.then("spins 9", "back 0").due("count 4", 2).due("undo", 1);
        // Nor is what is kept changed by what is done behind it.
        two.times(10, "spins 7").then("back 0").isAs("kept as it was", two);
    }

    private static void imageKeepsNothingElse() {
        is.about("nothing else");
        Run kept = told(Rich.TEXT).then("draws 0 0 1 0 0", "sees 4 1", "keep 0");
        kept.then("sees 5 0", "type 65", "mark 1 0", "keep 1").isAskedFreely("back 0");
        kept.then("forget").isAskedFreely("back 0");
        kept.then("type 65", "keep 1", "clear").isAskedFreely("back 1");
        kept.then("spins 3", "forget", "sees 7 0", "type 66", "back 0").due("count 3", 1).due("count 5", 1).due("now 0", 0);
    }

    private static void imagesApart() {
        is.about("An IMAGE is kept: CURVES. BAD.");
        Run run = told("r12;w3;p999;").then("draws 0 0 1 0 0", "keep 0", "draws 0 0 2 1 0", "keep 1", "draws 0 0 3 2 0");
        run.due("back 0", 1).due("back 1", 2).then("back 0").due("back 1", 2).then("back 1").due("back 0", 1);
        run.due("keep 0", 3).then("keep 0", "rubs 0").due("back 0", 3).due("back 1", 2);
        run.due("keep 1", 3).then("keep 1", "rubs 0").due("back 0", 1).due("back 1", 3);
        run.then("undo", "undo", "undo").due("keep 0", 0).then("keep 0", "back 1").due("back 0", 0);
    }

    private static void readAnewAsTold() {
        is.about("Read anew: as told, no CURVES, it LIES 0");
        Run anew = Rich.with(is, "").told("r24;w5;p7;").due("now 0", 0).due("now 1", 0).due("now 2", 0).due("now 3", 360);
        anew.due("ring 0", 24).due("wheel 0 0 0", 5).due("pen 0 0", 7).refuses("curve 0 0", BAD).refuses("ring 1", BAD).refuses("pen 1 0", BAD);
        anew.refuses("wheel 0 1 0", BAD).due("shown 0 1", NONE).due("mark 0 0", NO);
        // But for THE TRACE it is as an object that has read nothing else.
        Run never = told(Rich.TEXT).then("draws 0 0 1 0 0", "draws 0 1 1 1 0", "spins 9", "keep 0", "keep 1", "sees 2 1", "fills 1 10", "best 0 0");
        never.told("r24;w5;p7;").isAs("anew", told("r24;w5;p7;"));
        never.told(Rich.TEXT).isAs("the same text again", told(Rich.TEXT));
    }

    private static void readAnewNothingLeft() {
        is.about("nothing SEEN or to be UNDONE, IMAGES are gone.");
        Run full = told("r12;w3;p999;").times(6, "sees 1 0").times(12, "draws 0 0 1 0 0").then("keep 0", "keep 1").due("count 3", 6).due("count 4", 10);
        Run anew = full.told("r12;w3;p999;").due("count 3", 0).due("count 4", 0).refuses("undo", STATE).refuses("back 0", STATE).refuses("back 1", STATE);
        anew.due("sees 0 1", 1).due("forget", 0).due("guess 0 0", 12).due("draws 0 0 1 0 0", 0).then("spins 1").due("undo", 0);
        anew.isAs("anew", told("r12;w3;p999;"));
    }

    private static void readAnewByNothing() {
        is.about("THE TEXT tells all, and is empty then");
        Run none = told(Rich.TEXT).then("draws 0 0 1 0 0", "spins 9", "keep 0", "sees 2 1").then("box");
        none.isAs("an empty text tells all, too", Run.fresh(is));
        // A text that has a fault does not read anew.
        Rich.with(is, "r24;w5;p7").refuses("box", -19).then("type 59").due("box", 3);
    }

    private static void counted() {
        is.about("0 RINGS, 1 WHEELS, 2 PENS, 3 SEEN, 4 how many may be UNDONE, 5 bytes of THE TEXT. BAD.");
        Run.fresh(is).bounds("count #", 0, 5, BAD);
        Rich.run(is).bounds("count #", 0, 5, BAD);
        Run most = told("r12;r15;r18;r20;w3;w4;w5;w6;w7;w8;p1;p2;p3;p4;").times(6, "sees 0 0").times(11, "spins 1").times(100, "type 32");
        long[] wants = {4, 6, 4, 6, 10, 100};
        for (int what = 0; what <= 5; what++) {
            most.due("count " + what, wants[what]);
            Run.fresh(is).due("count " + what, 0);
        }
    }
}
