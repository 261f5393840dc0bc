/**
 * "Refused, and nothing changes": each way in which each promise refuses, or has nothing to tell, behind runs that have
 * something of everything, and then all that can be seen.
 */
public final class RefusedTest {
    private static final int BAD = PetalWheels.BAD;
    private static final int STATE = PetalWheels.STATE;
    private static final int FULL = PetalWheels.FULL;
    private static final int NONE = PetalWheels.NONE;
    private static final int NO = PetalWheels.NO;

    private static final Checks is = new Checks();
    private static final Run[] RUNS = {Rich.run(is), Rich.brim(is), Rich.lost(is)};

    public static void main(String[] args) {
        theBox();
        whatIsDone();
        firstState();
        firstFull();
        whatShows();
        whichItWas();
        kindsAndImages();
        nothingToTell();
        is.end();
    }

    /** Refused by the same behind each of the runs. */
    private static void everywhere(long want, String... calls) {
        for (Run run : RUNS) {
            for (String call : calls) {
                run.refuses(call, want);
            }
        }
    }

    private static void behind(Run run, long want, String... calls) {
        for (String call : calls) {
            run.refuses(call, want);
        }
    }

    private static void theBox() {
        is.about("Refused, and nothing changes: type, box, ring, wheel, pen, curve");
        everywhere(BAD, "type -1", "type 256", "ring -1", "ring 4", "wheel -1 0 0", "wheel 4 0 0", "wheel 0 -1 0", "wheel 0 6 0",
            "wheel 0 0 -1", "wheel 0 0 4", "wheel 0 2 4", "pen -1 0", "pen 4 0", "pen 0 -1", "pen 0 2",
            "curve -1 0", "curve 12 0", "curve 0 -1", "curve 0 7", "curve 12 7");
        everywhere(NONE, "wheel 0 2 1", "wheel 0 2 2", "wheel 0 2 3");
        behind(Rich.run(is), -12, "box");
        behind(Rich.brim(is), -110, "box");
        behind(Rich.lost(is), -12, "box");
    }

    private static void whatIsDone() {
        is.about("Refused, and nothing changes: draws, rubs, spins, fills, now");
        everywhere(BAD, "draws -1 0 1 0 0", "draws 4 0 1 0 0", "draws 0 -1 1 0 0", "draws 0 6 1 0 0", "draws 0 0 0 0 0",
            "draws 0 0 10 0 0", "draws 0 0 1 -1 0", "draws 0 0 1 12 0", "draws 1 0 1 24 0", "draws 0 0 1 0 -1", "draws 0 0 1 0 4",
            "rubs -1", "rubs 12", "spins -1", "spins 0", "spins 360", "fills -1 1", "fills 4 1", "fills 0 0", "fills 0 -1",
            "fills 0 1000", "now -1", "now 4");
    }

    private static void firstState() {
        is.about("Refused, and nothing changes: BAD, and then STATE");
        behind(Rich.run(is), STATE, "draws 0 2 1 0 0", "draws 1 3 1 0 1", "odds 0 2 0 0", "odds 0 2 359 1");
        behind(Rich.brim(is), STATE, "draws 0 2 1 0 0", "draws 0 0 1 0 2", "draws 0 0 1 0 3", "draws 3 5 1 0 0", "fills 0 1",
            "fills 0 999", "odds 0 2 0 0");
        behind(Rich.lost(is), STATE, "undo", "back 0", "back 1", "draws 0 2 9 11 1");
        behind(Rich.brim(is), BAD, "fills 0 0", "fills 0 1000", "draws 0 2 10 0 2", "odds 0 2 360 0", "odds 0 2 0 2");
        behind(Rich.lost(is), BAD, "back 2", "back -1");
    }

    private static void firstFull() {
        is.about("Refused, and nothing changes: BAD, and STATE, and then FULL");
        behind(Rich.brim(is), FULL, "type 0", "type 59", "type 255", "draws 0 0 1 0 1", "draws 1 0 9 23 1", "sees 0 0", "sees 119 1");
        behind(Rich.brim(is), STATE, "draws 0 2 1 0 1", "draws 0 0 1 0 2");
        behind(Rich.brim(is), BAD, "type 256", "type -1", "draws 0 0 10 0 1", "sees 120 0", "sees 0 2", "sees -1 1", "sees 0 -1");
    }

    private static void whatShows() {
        is.about("Refused, and nothing changes: shown, petals, closes, best, meet, odds");
        everywhere(BAD, "shown -1 1", "shown 360 1", "shown 0 0", "shown 0 10", "petals -1 1", "petals 4 1", "petals 0 0",
            "petals 0 121", "closes -1 1 0", "closes 4 1 0", "closes 0 0 0", "closes 0 10 0", "closes 0 1 -1", "closes 0 1 2",
            "best -1 0", "best 4 0", "best 0 -1", "best 0 2", "meet -1 0", "meet 0 -1", "meet 12 0", "meet 0 12", "meet 0 0",
            "meet 1 1", "odds -1 0 0 0", "odds 4 0 0 0", "odds 0 -1 0 0", "odds 0 6 0 0", "odds 0 0 -1 0", "odds 0 0 360 0",
            "odds 0 0 0 -1", "odds 0 0 0 2");
    }

    private static void whichItWas() {
        is.about("Refused, and nothing changes: sees, guess, look");
        everywhere(BAD, "sees -1 0", "sees 120 0", "sees 0 -1", "sees 0 2", "guess -1 0", "guess 4 0", "guess 0 -1", "guess 0 2",
            "look -1", "look 4");
    }

    private static void kindsAndImages() {
        is.about("Refused, and nothing changes: mark, keep, back, count");
        everywhere(NO, "mark -1 0", "mark 6 0", "mark 0 -1", "mark 0 12", "mark 1 12", "mark 2 12", "mark 3 12", "mark 4 12", "mark 5 12");
        everywhere(BAD, "keep -1", "keep 2", "back -1", "back 2", "count -1", "count 6");
    }

    private static void nothingToTell() {
        is.about("NONE, and nothing changes: shown, petals, closes, guess, look");
        everywhere(NONE, "shown 2 1", "shown 0 9", "petals 0 1", "petals 0 119", "petals 0 120");
        behind(Rich.with(is, "").then("sees 119 1").typed("p7"), NONE, "guess 0 1", "look 0", "guess 1 1", "look 1");
        Run none = Run.fresh(is).told("r12;r24;w12;w13;p999;p5;").then("draws 1 1 1 0 0", "keep 0", "keep 1", "sees 3 1", "mark 2 0", "best 0 0").typed("p7");
        behind(none, NONE, "closes 0 2 0", "closes 0 2 1", "closes 0 1 1", "closes 1 1 1", "guess 0 1", "look 0", "petals 0 12");
        behind(none, 0, "closes 0 1 0", "guess 0 0", "best 1 0", "best 1 1", "pen 1 1");
    }
}
