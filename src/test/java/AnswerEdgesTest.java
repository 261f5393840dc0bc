/** The boundary cases of the document's part 3 (what is best, which it was) and of promises 16 to 24. */
public final class AnswerEdgesTest {
    private static final int BAD = PetalWheels.BAD;
    private static final int STATE = PetalWheels.STATE;
    private static final int FULL = PetalWheels.FULL;
    private static final int NONE = PetalWheels.NONE;

    private static final Checks is = new Checks();

    public static void main(String[] args) {
        nothingIsChanged();
        petalsWanted();
        petalsNone();
        closesNumbers();
        closesNoneNeeded();
        closesNoneFits();
        closesFewest();
        closesAsThePaperLies();
        bestNumbers();
        bestInkAtMost();
        bestEachOnce();
        bestLeast();
        seenNumbers();
        seenSix();
        forgotten();
        noSuchTooth();
        guessNumbers();
        guessFirst();
        guessNone();
        lookNumbers();
        lookFewerThanTwo();
        lookNoneParts();
        lookLeast();
        like();
        likeEverywhere();
        meetNumbers();
        meetPoints();
        oddsNumbers();
        oddsOfPoints();
        is.end();
    }

    private static Run told(String text) {
        return Run.fresh(is).told(text);
    }

    private static void nothingIsChanged() {
        is.about("(Nothing is changed.)");
        Run rich = Rich.run(is);
        String[] calls = {
            "ring 0", "wheel 0 0 3", "pen 0 1", "curve 0 6", "now 2", "now 3", "shown 0 1", "petals 0 4", "petals 0 5",
            "closes 0 1 0", "closes 1 9 1", "best 0 0", "best 1 1", "meet 0 1", "odds 0 0 10 0", "odds 1 3 0 1", "guess 0 0",
            "guess 1 1", "look 0", "look 1", "count 4", "trace"};
        for (String call : calls) {
            rich.isAskedFreely(call);
        }
        // What was asked of a larger ring is not left over for a smaller one.
        Run rings = told("r12;r24;w6;p999;").then("draws 0 0 1 0 0").due("closes 0 1 0", 5);
        rings.isAskedFreely("closes 1 2 0").then("guess 1 0", "look 1").due("closes 0 1 0", 5);
        // A set that is best for one box is not the one that is best for the next.
        Run best = Rich.with(is, "").then("best 0 0").told("r12;w3;p999;p0;").due("best 0 0", 4).due("best 1 0", 0);
        best.then("best 0 0").told("r12;w11;p999;").due("best 0 0", 12).due("best 0 1", 132);
    }

    private static void petalsWanted() {
        is.about("FOR n (1 .. 120); NONE. BAD.");
        Rich.run(is).bounds("petals 0 #", 1, 120, BAD).bounds("petals # 1", 0, 1, BAD);
        told("w3;").refuses("petals 0 1", BAD);
        Run run = told("r120;r12;w60;w7;w77;w3;w9;").due("petals 0 120", 1).due("petals 0 2", 0).due("petals 0 1", NONE).due("petals 0 119", NONE);
        run.due("petals 0 40", 3).due("petals 1 4", 3).due("petals 1 12", 1);
    }

    private static void petalsNone() {
        is.about("FOR a RING and n PETALS: the lowest WHEEL that fits, by which there are so many; NONE.");
        told("r12;").due("petals 0 1", NONE).due("petals 0 12", NONE);
        told("r12;w12;w13;w24;").due("petals 0 1", NONE).due("petals 0 12", NONE);
        // 15 has the divisor 3 with 12, and 13 the divisor 1, but only 9 and 7 fit.
        told("r12;w15;w13;w9;w7;w3;w5;").due("petals 0 4", 2).due("petals 0 12", 3).due("petals 0 3", NONE);
        told("r12;w5;w7;w11;w3;w9;w6;").due("petals 0 12", 0).due("petals 0 4", 3).due("petals 0 2", 5);
    }

    private static void closesNumbers() {
        is.about("CLOSES: how many (what = 0), the WHEEL (1); NONE. BAD.");
        Rich.run(is).bounds("closes # 1 0", 0, 1, BAD).bounds("closes 0 # 1", 1, 9, BAD).bounds("closes 0 1 #", 0, 1, BAD);
        told("w3;").refuses("closes 0 1 0", BAD);
        Run none = told("r12;w12;").bounds("closes 0 # 0", 1, 9, BAD).bounds("closes 0 1 #", 0, 1, BAD);
        none.bounds("closes # 1 1", 0, 0, BAD);
    }

    private static void closesNoneNeeded() {
        is.about("(NONE: none is needed)");
        Run run = told("r12;r24;w11;w12;w6;p999;");
        run.due("closes 0 1 0", 1).due("closes 0 1 1", 0);
        Run all = run.then("draws 0 0 1 0 0").due("closes 0 1 0", 0).due("closes 0 1 1", NONE);
        all.due("closes 0 2 0", 1).due("closes 0 2 1", 0).due("closes 1 1 0", 1).due("closes 1 1 1", 0);
        // All but one tooth's two: one is needed still.
        Run five = run;
        for (int start = 0; start < 5; start++) {
            five = five.then("draws 0 2 9 " + start + " 0");
        }
        five.due("closes 0 9 0", 1).due("closes 0 9 1", 0).due("closes 0 8 1", 0);
        five.then("draws 0 2 9 11 0").due("closes 0 9 0", 0).due("closes 0 9 1", NONE);
        // One tooth alone is bare: 0, as ring 24's tips stand at 60, 180 and 300; then 6, at 0, 120 and 240.
        Run but0 = told("r12;r24;w6;w8;p999;");
        for (int start = 1; start <= 5; start++) {
            but0 = but0.then("draws 0 0 1 " + start + " 0");
        }
        but0.then("draws 1 1 1 4 0").due("closes 0 1 0", 1).due("closes 0 1 1", 0);
        but0.then("draws 1 1 1 0 0").due("closes 0 1 0", 1).due("closes 0 1 1", 0);
        but0.then("draws 1 1 1 0 0", "draws 1 1 1 4 0").due("closes 0 1 0", 0).due("closes 0 1 1", NONE);
    }

    private static void closesNoneFits() {
        is.about("NONE: none fits (and one is needed).");
        told("r12;").due("closes 0 1 0", NONE).due("closes 0 1 1", NONE);
        told("r12;w12;w13;w99;").due("closes 0 1 0", NONE).due("closes 0 1 1", NONE);
        told("r12;w12;w13;w11;").due("closes 0 1 0", 1).due("closes 0 1 1", 2);
        Run other = told("r12;r24;r15;w15;w17;p999;");
        // Ring 24's twelve by wheel 1 stand at all of ring 0's teeth, whom no wheel fits.
        other.then("draws 1 1 3 0 0").due("closes 0 3 0", 0).due("closes 0 3 1", NONE).due("closes 2 3 0", NONE).due("closes 2 3 1", NONE)
            .due("closes 0 4 0", NONE).due("closes 0 4 1", NONE);
    }

    private static void closesFewest() {
        is.about("the fewest CURVES more, all by one WHEEL that fits .. the WHEEL, of several the lowest");
        told("r120;w60;").due("closes 0 1 0", 60).due("closes 0 1 1", 0);
        told("r12;w6;w9;w4;w3;").due("closes 0 1 0", 3).due("closes 0 1 1", 1);
        told("r12;w3;w9;").due("closes 0 1 1", 0);
        // By one wheel 4 are needed at first, by the other 3; then 2 and 3.
        Run run = told("r12;w4;w3;p999;").due("closes 0 1 1", 1).then("draws 0 0 1 0 0", "draws 0 0 1 5 0");
        run.due("closes 0 1 0", 2).due("closes 0 1 1", 0);
        // Neither ink nor the room for 12 curves is asked for.
        told("r12;w6;p0;").due("closes 0 1 0", 6).due("closes 0 1 1", 0);
        told("r12;w6;p999;").times(12, "draws 0 0 2 0 0").due("closes 0 2 0", 5).due("closes 0 1 0", 6);
    }

    private static void closesAsThePaperLies() {
        is.about("as THE PAPER LIES, so that there is a TIP in that LINE at each TOOTH of that RING (those that are there count)");
        Run all = told("r12;w11;w6;p999;").then("draws 0 0 1 0 0");
        all.then("spins 1").due("closes 0 1 0", 1).due("closes 0 1 1", 0);
        all.then("spins 29").due("closes 0 1 0", 1);
        all.then("spins 30").due("closes 0 1 0", 0).due("closes 0 1 1", NONE);
        all.then("spins 359").due("closes 0 1 0", 1).then("spins 1").due("closes 0 1 0", 0);
        all.then("spins 330").due("closes 0 1 0", 0);
        Run one = told("r12;w6;p999;").then("spins 345", "draws 0 0 1 11 0").due("closes 0 1 0", 5).then("spins 330").due("closes 0 1 0", 5);
        one.then("spins 1").due("closes 0 1 0", 6);
        Run turned = told("r12;w6;p999;").then("spins 1", "draws 0 0 1 0 0").due("closes 0 1 0", 5).then("spins 30").due("closes 0 1 0", 5);
        turned.then("spins 328").due("now 0", 359).due("closes 0 1 0", 6).then("spins 2").due("closes 0 1 0", 5);
        // Covered ones count as well, as something is there all the same.
        all.then("draws 0 1 1 0 0").due("closes 0 1 0", 0).then("rubs 0").due("closes 0 1 0", 1).due("closes 0 1 1", 0);
    }

    private static void bestNumbers() {
        is.about("BEST: how many PETALS (what = 0), how LONG (1). BAD.");
        Rich.run(is).bounds("best # 0", 0, 1, BAD).bounds("best 0 #", 0, 1, BAD);
        told("r12;w3;").refuses("best 0 0", BAD);
        told("p999;p0;").due("best 0 0", 0).due("best 0 1", 0).due("best 1 0", 0).due("best 1 1", 0);
        told("r12;w12;p999;").due("best 0 0", 0).due("best 0 1", 0);
    }

    private static void bestInkAtMost() {
        is.about("by which LONG, all together, is INK at most");
        Run run = told("r12;w3;w4;p11;p12;p13;p23;").due("best 0 0", 0).due("best 0 1", 0);
        run.due("best 1 0", 4).due("best 1 1", 12).due("best 2 0", 4).due("best 2 1", 12).due("best 3 0", 4).due("best 3 1", 12);
        run.then("fills 3 1").due("best 3 0", 7).due("best 3 1", 24);
        run.then("fills 3 976").due("best 3 0", 7).due("best 3 1", 24);
        run.then("fills 3 1", "draws 0 0 1 0 3").due("best 3 0", 4).due("best 3 1", 12);
        told("r120;w7;p839;p840;p841;p999;").due("best 0 0", 0).due("best 0 1", 0).due("best 1 0", 120).due("best 1 1", 840)
            .due("best 2 0", 120).due("best 3 0", 120).due("best 3 1", 840);
        // 90 petals by 990 alone, and 63 by all the others together, which are 675 long.
        told("r90;r45;w10;w11;p989;p990;p999;p675;").due("best 0 0", 63).due("best 0 1", 675).due("best 1 0", 90).due("best 1 1", 990)
            .due("best 2 0", 90).due("best 2 1", 990).due("best 3 0", 63);
        // 15 by 105, 3 by 30, 72 by 504 and 36 by 360: all together are 999 long.
        told("r15;r72;w7;w10;p999;p998;").due("best 0 0", 126).due("best 0 1", 999).due("best 1 0", 123).due("best 1 1", 969);
    }

    private static void bestEachOnce() {
        is.about("of all sets of twos of a RING and a WHEEL that fits, each at most once");
        told("r12;w3;p999;").due("best 0 0", 4).due("best 0 1", 12);
        told("r12;r12;w3;w3;p999;").due("best 0 0", 16).due("best 0 1", 48);
        told("r12;r12;w3;w12;w13;p999;").due("best 0 0", 8).due("best 0 1", 24);
        told("r12;r15;w12;p999;").due("best 0 0", 5).due("best 0 1", 60);
    }

    private static void bestLeast() {
        is.about("that of most PETALS, all together: how many; how LONG the least such set is");
        // 12 petals by 60 and by 84.
        told("r12;w7;w5;p100;").due("best 0 0", 12).due("best 0 1", 60);
        told("r12;w5;w7;p100;").due("best 0 0", 12).due("best 0 1", 60);
        told("r12;w5;w7;p144;p143;").due("best 0 0", 24).due("best 0 1", 144).due("best 1 0", 12).due("best 1 1", 60);
    }

    private static void seenNumbers() {
        is.about("at a TOOTH (0 .. 119) of an unknown CURVE there was a TIP (1), or there was not (0");
        Rich.run(is).bounds("sees # 0", 0, 119, BAD).bounds("sees # 1", 0, 119, BAD).bounds("sees 0 #", 0, 1, BAD);
        Run.fresh(is).bounds("sees # 1", 0, 119, BAD).bounds("sees 119 #", 0, 1, BAD).due("sees 0 0", 1).due("sees 119 1", 1);
        Run run = told("r120;w60;").due("guess 0 0", 120);
        run.then("sees 119 1").due("guess 0 0", 2).due("guess 0 1", 59);
        run.then("sees 119 0").due("guess 0 0", 118).due("guess 0 1", 0);
        run.then("sees 0 1").due("guess 0 0", 2).due("guess 0 1", 0);
        run.then("sees 0 0").due("guess 0 0", 118).due("guess 0 1", 1);
    }

    private static void seenSix() {
        is.about("SEEN (6 at most) .. SEEN: how much there is. BAD; FULL.");
        Run five = Run.fresh(is).times(4, "sees 3 0").due("sees 3 0", 5).then("sees 3 0");
        Run six = five.due("sees 3 0", 6).then("sees 4 1").due("count 3", 6);
        six.refuses("sees 0 0", FULL).refuses("sees 4 1", FULL).refuses("sees 119 1", FULL);
        six.bounds("sees # 0", 0, 119, BAD).bounds("sees 0 #", 0, 1, BAD).refuses("sees 120 2", BAD);
        six.then("forget").due("sees 0 0", 1);
        // The seventh is not among what was seen.
        Run ring = told("r12;w6;").then("sees 0 0", "sees 1 0", "sees 2 0", "sees 3 0", "sees 6 0").due("guess 0 0", 4);
        ring.then("sees 7 0").due("guess 0 0", 4).refuses("sees 4 0", FULL).due("guess 0 1", 4);
        ring.then("sees 4 0").due("guess 0 0", 2).due("guess 0 1", 5).refuses("sees 5 0", FULL);
    }

    private static void forgotten() {
        is.about("Nothing was SEEN: how much was.");
        Run.fresh(is).due("forget", 0).isAskedFreely("forget");
        Rich.run(is).due("forget", 2).then("forget").due("forget", 0).isAskedFreely("forget").due("count 3", 0);
        Run run = told(Rich.TEXT).then("draws 0 0 1 0 0", "keep 0");
        Run six = run.times(6, "sees 5 1").due("forget", 6);
        six.then("forget").isAs("as if nothing had been seen", run);
    }

    private static void noSuchTooth() {
        is.about("where there is no such TOOTH, there is none");
        Run run = told("r12;r24;w6;").due("guess 0 0", 12).due("guess 1 0", 24);
        run.then("sees 11 1").due("guess 0 0", 2).due("guess 0 1", 5).due("guess 1 0", 4).due("guess 1 1", 5);
        run.then("sees 12 1").due("guess 0 0", 0).due("guess 0 1", NONE).due("look 0", NONE).due("guess 1 0", 4).due("guess 1 1", 0);
        run.then("sees 12 0").due("guess 0 0", 12).due("guess 0 1", 0).due("guess 1 0", 20).due("guess 1 1", 1);
        run.then("sees 23 1").due("guess 1 0", 4).due("guess 1 1", 5);
        run.then("sees 24 1").due("guess 0 0", 0).due("guess 1 0", 0).due("guess 1 1", NONE);
        run.then("sees 119 0").due("guess 0 0", 12).due("guess 1 0", 24);
    }

    private static void guessNumbers() {
        is.about("GUESS: how many (what = 0), the first (1; NONE). BAD.");
        Rich.run(is).bounds("guess # 0", 0, 1, BAD).bounds("guess # 1", 0, 1, BAD).bounds("guess 0 #", 0, 1, BAD);
        told("w3;").refuses("guess 0 0", BAD).refuses("guess 0 1", BAD);
        told("r12;w12;").bounds("guess 0 #", 0, 1, BAD);
    }

    private static void guessFirst() {
        is.about("twos of a WHEEL that fits and a START by which all that was SEEN is so: how many; the first (1000 times the WHEEL, and START)");
        told("r12;w3;").due("guess 0 0", 12).due("guess 0 1", 0);
        told("r12;w12;w99;w11;").due("guess 0 0", 12).due("guess 0 1", 2000);
        Run six = told("r120;w99;w98;w97;w96;w95;w60;").due("guess 0 0", 720).due("guess 0 1", 0);
        six.then("sees 59 1", "sees 29 0", "sees 62 0", "sees 61 0", "sees 64 0", "sees 83 0").due("guess 0 0", 2).due("guess 0 1", 5059);
        // The lowest wheel goes ahead of a lower start.
        told("r12;w6;w4;").then("sees 5 1").due("guess 0 0", 5).due("guess 0 1", 5).then("sees 11 0").due("guess 0 0", 3).due("guess 0 1", 1001);
    }

    private static void guessNone() {
        is.about("GUESS .. NONE");
        told("r12;").due("guess 0 0", 0).due("guess 0 1", NONE);
        told("r12;w12;w13;").due("guess 0 0", 0).due("guess 0 1", NONE);
        Run run = told("r12;w6;").then("sees 0 1").due("guess 0 0", 2);
        run.then("sees 0 0").due("guess 0 0", 0).due("guess 0 1", NONE);
        run.then("sees 1 1").due("guess 0 0", 0).due("guess 0 1", NONE);
        run.then("sees 0 1").due("guess 0 0", 2).due("guess 0 1", 0);
        // A wheel by which each tooth has a tip can't be, if one has none.
        told("r12;w11;").then("sees 7 0").due("guess 0 0", 0).due("guess 0 1", NONE);
    }

    private static void lookNumbers() {
        is.about("LOOK; NONE. BAD.");
        Rich.run(is).bounds("look #", 0, 1, BAD);
        told("w3;").refuses("look 0", BAD);
        told("r12;").bounds("look #", 0, 0, BAD).due("look 0", NONE);
    }

    private static void lookFewerThanTwo() {
        is.about("NONE (fewer than 2");
        told("r12;").due("guess 0 0", 0).due("look 0", NONE);
        told("r12;w12;").due("guess 0 0", 0).due("look 0", NONE);
        told("r12;w3;").then("sees 12 1").due("guess 0 0", 0).due("look 0", NONE);
        // There is never just one: a curve that starts at another of its tips has the same tips, and it has 2 at least.
        told("r12;w6;").then("sees 0 1").due("guess 0 0", 2).due("look 0", NONE);
    }

    private static void lookNoneParts() {
        is.about("none parts them)");
        told("r12;w11;w7;w5;").due("guess 0 0", 36).due("look 0", NONE);
        told("r12;w3;w9;").then("sees 1 1").due("guess 0 0", 8).due("look 0", NONE);
        told("r12;w3;").then("sees 0 0", "sees 1 0").due("guess 0 0", 4).due("look 0", NONE);
        told("r12;w3;").then("sees 0 0").due("guess 0 0", 8).due("look 0", 1);
        // A wheel that does not fit would part them.
        Run fits = told("r12;w6;w12;w24;").then("sees 0 0", "sees 1 0", "sees 2 0", "sees 3 0");
        fits.due("guess 0 0", 4).due("look 0", 4).then("sees 4 0").due("guess 0 0", 2).due("look 0", NONE);
    }

    private static void lookLeast() {
        is.about("the TOOTH of it by which, TIP or not, the greater part of these is least, of several the lowest");
        told("r12;w6;").due("look 0", 0).then("sees 0 0").due("look 0", 1).then("sees 1 0", "sees 2 0", "sees 3 0").due("look 0", 4);
        // 2 by 0, 6 and 4 by 0, 3, 6, 9 and 12 by every tooth: at 1 the parts are 12 and 6, at 3 they are 16 and 2.
        told("r12;w6;w3;w5;").then("sees 0 1").due("guess 0 0", 18).due("look 0", 1);
        told("r12;w6;w3;w4;").then("sees 0 1").due("guess 0 0", 9).due("look 0", 3);
        // In the larger ring the last tooth but 60 is the only one that parts 2 from 4.
        Run last = told("r120;w60;w30;").then("sees 59 1").due("guess 0 0", 6).due("look 0", 29);
        last.then("sees 29 0").due("guess 0 0", 2).due("look 0", NONE);
        // Teeth beyond the ring are not looked at.
        told("r12;r24;w6;").then("sees 0 1").due("look 0", NONE).due("look 1", NONE);
    }

    private static void like() {
        is.about("LIKE: the greatest number that divides 360");
        Run.fresh(is).due("now 3", 360).then("spins 77").due("now 3", 360);
        told("r120;w7;p999;").then("draws 0 0 1 5 0").due("now 3", 120).then("rubs 0").due("now 3", 360);
        told("r120;w60;p999;").then("draws 0 0 1 5 0").due("now 3", 2);
        Run run = told("r12;r15;w6;w5;p999;p999;").then("draws 0 0 1 0 0").due("now 3", 2);
        // 2 tips by one ring and 3 by the other leave it alike only when it is turned all the way.
        run.then("draws 1 1 1 0 0").due("now 3", 1);
        run.then("draws 1 1 2 0 0").due("now 3", 1);
        run.then("draws 0 0 1 3 0").due("now 3", 4).then("spins 1", "draws 0 0 1 0 0").due("now 3", 2);
        run.then("draws 0 0 1 3 1").due("now 3", 2);
    }

    private static void likeEverywhere() {
        is.about("were THE PAPER TURNED by 360 by it, the same PENS would be SHOWN everywhere");
        Run run = told("r12;w3;w6;w11;p999;p999;");
        for (int line = 1; line <= 9; line++) {
            Run four = run.then("draws 0 0 " + line + " 2 1").due("now 3", 4);
            for (int other = 1; other <= 9; other++) {
                four.then("draws 0 1 " + other + " 2 1").due("now 3", other == line ? 4 : 2);
                four.then("draws 0 1 " + other + " 2 0").due("now 3", 2);
            }
        }
        // What is covered does not matter.
        run.then("draws 0 1 1 0 0", "draws 0 2 1 0 1").due("now 3", 12);
        run.then("draws 0 2 1 0 1", "draws 0 1 1 0 0").due("now 3", 2);
        // Turned by the smallest step, though tips lie across point 0.
        run.then("spins 359", "draws 0 0 1 0 0").due("now 3", 4).then("draws 0 0 2 11 1").due("now 3", 4);
    }

    private static void meetNumbers() {
        is.about("MEET. BAD (alike ones, too).");
        Run.fresh(is).refuses("meet 0 0", BAD).refuses("meet 0 1", BAD);
        Run one = told("r12;w3;p999;").then("draws 0 0 1 0 0").refuses("meet 0 0", BAD).refuses("meet 0 1", BAD).refuses("meet 1 0", BAD);
        Run two = one.then("draws 0 0 1 0 0").due("meet 0 1", 4).due("meet 1 0", 4).refuses("meet 0 0", BAD).refuses("meet 1 1", BAD);
        two.bounds("meet # 0", 1, 1, BAD).bounds("meet 0 #", 1, 1, BAD);
        Run twelve = two.times(10, "draws 0 0 1 1 0").due("meet 0 11", 0).due("meet 10 11", 4).bounds("meet # 0", 1, 11, BAD);
        twelve.bounds("meet 0 #", 1, 11, BAD).refuses("meet 11 11", BAD).refuses("meet 12 12", BAD);
    }

    private static void meetPoints() {
        is.about("MEET of two CURVES: how many POINTS at which both have a TIP in one LINE.");
        Run run = told("r120;r90;r12;w7;w3;p999;p999;").then("draws 0 0 1 0 0", "draws 1 0 1 0 1");
        run.due("meet 0 1", 30).due("meet 1 0", 30);
        run = run.then("draws 2 1 2 0 1", "draws 2 1 1 11 1", "spins 359", "draws 2 1 1 0 1", "spins 2", "draws 2 1 1 11 1", "spins 29", "draws 2 1 1 11 1");
        run.due("meet 0 2", 0).due("meet 0 3", 4).due("meet 3 4", 0).due("meet 3 5", 0).due("meet 3 6", 0).due("meet 4 6", 0).due("meet 0 6", 4);
    }

    private static void oddsNumbers() {
        is.about("ODDS: upper (what = 0), lower number (1), in least terms. BAD; STATE: the WHEEL does not fit.");
        Rich.run(is).bounds("odds # 0 0 0", 0, 1, BAD).bounds("odds 0 # 0 0", 0, 3, BAD).bounds("odds 0 0 # 1", 0, 359, BAD).bounds("odds 0 0 0 #", 0, 1, BAD);
        told("w3;").refuses("odds 0 0 0 0", BAD);
        told("r12;").refuses("odds 0 0 0 0", BAD);
        Run no = told("r12;w11;w12;w13;").due("odds 0 0 0 0", 1).due("odds 0 0 0 1", 1);
        no.refuses("odds 0 1 0 0", STATE).refuses("odds 0 2 359 1", STATE);
        // BAD is the first of these.
        no.refuses("odds 0 1 360 0", BAD).refuses("odds 0 1 -1 1", BAD).refuses("odds 0 1 0 2", BAD).refuses("odds 0 1 0 -1", BAD)
            .refuses("odds 1 1 0 0", BAD).refuses("odds 0 3 0 0", BAD);
    }

    private static void oddsOfPoints() {
        is.about("each START is as likely, as THE PAPER LIES: that there is a TIP at that POINT: a fraction");
        Run run = told("r120;r12;w60;w8;w7;w6;");
        run.due("odds 0 0 0 0", 1).due("odds 0 0 0 1", 60).due("odds 0 2 357 0", 1).due("odds 0 2 357 1", 1);
        run.due("odds 0 0 1 0", 0).due("odds 0 0 1 1", 1).due("odds 0 0 359 0", 0).due("odds 0 0 359 1", 1);
        run.due("odds 1 3 330 0", 1).due("odds 1 3 330 1", 6).due("odds 1 3 329 0", 0).due("odds 1 3 331 0", 0).due("odds 1 1 30 1", 4);
        Run turned = run.then("spins 359").due("odds 1 3 359 0", 1).due("odds 1 3 359 1", 6).due("odds 1 3 0 0", 0).due("odds 1 3 0 1", 1);
        turned.due("odds 1 3 29 0", 1).due("odds 1 3 30 0", 0).then("spins 1").due("odds 1 3 0 0", 1).due("odds 1 3 359 0", 0);
        run.then("spins 1").due("odds 1 3 1 0", 1).due("odds 1 3 0 0", 0).due("odds 1 3 331 0", 1).due("odds 1 3 359 0", 0);
    }
}
