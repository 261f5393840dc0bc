/** The boundary cases of the document's part 2 (what is done, what shows) and of promises 6 to 15. */
public final class PaperEdgesTest {
    private static final int BAD = PetalWheels.BAD;
    private static final int STATE = PetalWheels.STATE;
    private static final int FULL = PetalWheels.FULL;
    private static final int NONE = PetalWheels.NONE;

    private static final Checks is = new Checks();

    public static void main(String[] args) {
        fits();
        petalsRoundsLong();
        ofRingAndWheel();
        ofPen();
        ofCurve();
        pointsAndLines();
        liesAtFirst();
        holes();
        starts();
        drawnOfWhat();
        tipsOfTeeth();
        leftOverBy360();
        twelveCurves();
        lessInk();
        drawsFirstOfThese();
        rubbed();
        laterOnesNumberedLess();
        turned();
        howItLies();
        turnedLeftOver();
        filled();
        filledAtMost();
        filledState();
        latestShows();
        shownOrNone();
        undoneNone();
        undoneAsAhead();
        tenAreKnown();
        refusedIsNotUndone();
        firstOfThese();
        nowWhat();
        is.end();
    }

    private static Run told(String text) {
        return Run.fresh(is).told(text);
    }

    private static void fits() {
        is.about("A WHEEL fits a RING, if its COGS are fewer than its TEETH.");
        int[] teeth = {12, 15, 18, 20, 24, 30, 36, 40, 45, 60, 72, 90};
        for (int t : teeth) {
            Run run = told("r" + t + ";w" + (t - 1) + ";w" + t + ";w" + (t + 1) + ";p999;");
            run.due("wheel 0 0 1", t).due("wheel 0 0 2", t - 1).due("wheel 0 0 3", t * (t - 1));
            run.due("odds 0 0 0 1", 1).due("petals 0 " + t, 0).due("guess 0 0", t);
            for (int w = 1; w <= 2; w++) {
                run.due("wheel 0 " + w + " 0", t + w - 1);
                for (int what = 1; what <= 3; what++) {
                    run.refuses("wheel 0 " + w + " " + what, NONE);
                }
                run.refuses("odds 0 " + w + " 0 0", STATE).refuses("draws 0 " + w + " 1 0 0", STATE);
            }
        }
        told("r120;w99;").due("wheel 0 0 1", 40).due("odds 0 0 0 1", 3);
        told("r12;r15;w12;p999;").refuses("draws 0 0 1 0 0", STATE).due("draws 1 0 1 0 0", 0);
    }

    private static void petalsRoundsLong() {
        is.about("PETALS of both: TEETH by their greatest common divisor; ROUNDS: COGS by that; LONG: TEETH times ROUNDS.");
        Run run = told("r120;r12;w60;w97;w3;w6;");
        long[][] wants = {{2, 1, 120}, {120, 97, 11640}, {40, 1, 120}, {20, 1, 120}};
        for (int w = 0; w < 4; w++) {
            for (int what = 1; what <= 3; what++) {
                run.due("wheel 0 " + w + " " + what, wants[w][what - 1]);
            }
        }
        run.due("wheel 1 2 1", 4).due("wheel 1 2 2", 1).due("wheel 1 2 3", 12);
        run.due("wheel 1 3 1", 2).due("wheel 1 3 2", 1).due("wheel 1 3 3", 12);
    }

    private static void ofRingAndWheel() {
        is.about("Of a RING and a WHEEL: COGS (what = 0), PETALS (1), ROUNDS (2), LONG (3) .. BAD.");
        Rich.run(is).bounds("wheel # 0 0", 0, 1, BAD).bounds("wheel 0 # 0", 0, 3, BAD).bounds("wheel 0 0 #", 0, 3, BAD);
        Rich.run(is).bounds("wheel 0 2 #", 0, 3, BAD).bounds("ring #", 0, 1, BAD);
        Rich.run(is).due("wheel 1 3 0", 5).due("wheel 1 3 3", 120);
        Run noWheels = told("r12;");
        noWheels.refuses("wheel 0 0 0", BAD).refuses("wheel 0 0 1", BAD);
        Run noRings = told("w3;");
        noRings.refuses("wheel 0 0 0", BAD).refuses("ring 0", BAD);
    }

    private static void ofPen() {
        is.about("Of a PEN: 0 INK, 1 at how many POINTS of all LINES it is SHOWN. BAD.");
        Rich.run(is).bounds("pen # 0", 0, 1, BAD).bounds("pen # 1", 0, 1, BAD).bounds("pen 1 #", 0, 1, BAD);
        told("r12;").refuses("pen 0 0", BAD).refuses("pen 0 1", BAD);
        Run run = told("r12;w3;w11;p999;p999;").due("pen 0 1", 0).then("draws 0 0 1 0 0").due("pen 0 1", 4).due("pen 1 1", 0);
        run.then("draws 0 1 1 0 1").due("pen 0 1", 0).due("pen 1 1", 12);
        run.then("draws 0 1 9 0 0").due("pen 0 1", 16);
    }

    private static void ofCurve() {
        is.about("Of a CURVE: 0 RING, 1 WHEEL, 2 HOLE, 3 START, 4 PEN, 5 how THE PAPER LAY, 6 how many of its TIPS are SHOWN. BAD.");
        told("r12;w3;p99;").bounds("now #", 0, 3, BAD).refuses("curve 0 0", BAD).refuses("curve 0 6", BAD);
        Run run = told("r12;r24;w3;w11;p999;p999;").then("spins 359", "draws 1 0 9 23 1");
        long[] wants = {1, 0, 9, 23, 1, 359, 8};
        for (int what = 0; what <= 6; what++) {
            run.due("curve 0 " + what, wants[what]).bounds("curve # " + what, 0, 0, BAD);
        }
        run.bounds("curve 0 #", 0, 6, BAD);
        run.then("draws 1 1 9 0 0").due("curve 0 6", 0).due("curve 1 6", 24);
        Run twelve = told("r12;w3;p999;").times(12, "draws 0 0 1 0 0").bounds("curve # 0", 0, 11, BAD);
        twelve.due("curve 11 6", 4).due("curve 10 6", 0);
    }

    private static void pointsAndLines() {
        is.about("THE PAPER has POINTS 0 .. 359 round about and LINES 1 .. 9");
        Rich.run(is).bounds("shown # 1", 0, 359, BAD).bounds("shown 0 #", 1, 9, BAD);
        Rich.run(is).bounds("odds 0 0 # 0", 0, 359, BAD).bounds("closes 0 # 0", 1, 9, BAD);
        Run.fresh(is).bounds("shown # 9", 0, 359, BAD).bounds("shown 359 #", 1, 9, BAD);
        Run.fresh(is).due("shown 0 1", NONE).due("shown 359 9", NONE);
        Run edges = told("r12;w3;p99;").then("draws 0 0 1 0 0", "spins 359", "draws 0 0 9 0 0");
        edges.due("shown 0 1", 0).due("shown 359 9", 1).due("shown 0 9", NONE).due("shown 359 1", NONE);
    }

    private static void liesAtFirst() {
        is.about("it LIES 0 at first");
        Run.fresh(is).due("now 0", 0);
        told("r12;w3;p99;").due("now 0", 0).then("draws 0 0 1 0 0").due("curve 0 5", 0).due("shown 0 1", 0);
    }

    private static void holes() {
        is.about("a HOLE (1 .. 9)");
        Rich.run(is).bounds("draws 0 0 # 0 0", 1, 9, BAD);
        Run run = told("r12;w3;p99;");
        run.due("draws 0 0 1 0 0", 0).then("draws 0 0 1 0 0").due("curve 0 2", 1).due("shown 0 1", 0).due("shown 0 2", NONE);
        run.due("draws 0 0 9 0 0", 0).then("draws 0 0 9 0 0").due("curve 0 2", 9).due("shown 0 9", 0).due("shown 0 8", NONE);
    }

    private static void starts() {
        is.about("a START (0 .. TEETH less 1)");
        Rich.run(is).bounds("draws 0 0 1 # 0", 0, 11, BAD).bounds("draws 1 0 1 # 0", 0, 23, BAD);
        told("r120;w60;p999;").bounds("draws 0 0 1 # 0", 0, 119, BAD).then("draws 0 0 1 119 0").due("curve 0 3", 119)
            .due("shown 357 1", 0).due("shown 177 1", 0);
    }

    private static void drawnOfWhat() {
        is.about("A CURVE .. is of a RING, a WHEEL that fits .. a PEN");
        Rich.run(is).bounds("draws # 0 1 0 0", 0, 1, BAD).bounds("draws 0 # 1 0 0", 0, 3, BAD).bounds("draws 0 0 1 0 #", 0, 1, BAD);
        told("w3;p99;").refuses("draws 0 0 1 0 0", BAD);
        told("r12;p99;").refuses("draws 0 0 1 0 0", BAD);
        told("r12;w3;").refuses("draws 0 0 1 0 0", BAD);
    }

    private static void tipsOfTeeth() {
        is.about("It has TIPS at all TEETH t of the RING for which t less START can be divided by the greatest common divisor");
        Run run = told("r12;w6;w5;p999;");
        for (int start = 0; start < 12; start++) {
            Run drawn = run.then("draws 0 0 1 " + start + " 0");
            for (int t = 0; t < 12; t++) {
                drawn.due("shown " + 30 * t + " 1", (t - start) % 6 == 0 ? 0 : NONE);
                drawn.due("shown " + (30 * t + 1) + " 1", NONE).due("shown " + (30 * t + 29) + " 1", NONE);
            }
        }
        run.then("draws 0 1 1 11 0").due("now 2", 12);
    }

    private static void leftOverBy360() {
        is.about("at the POINT 360 by TEETH, times t, and as it LIES (left over by 360)");
        Run run = told("r12;w6;p999;");
        run.then("spins 29", "draws 0 0 1 11 0").due("shown 359 1", 0).due("shown 179 1", 0).due("now 2", 2);
        run.then("spins 30", "draws 0 0 1 11 0").due("shown 0 1", 0).due("shown 180 1", 0).due("now 2", 2);
        run.then("spins 31", "draws 0 0 1 11 0").due("shown 1 1", 0).due("shown 181 1", 0).due("now 2", 2);
        run.then("spins 359", "draws 0 0 1 11 0").due("shown 329 1", 0).due("shown 149 1", 0).due("now 2", 2);
        run.then("spins 359", "draws 0 0 1 0 0").due("shown 359 1", 0).due("shown 179 1", 0).due("now 2", 2);
    }

    private static void twelveCurves() {
        is.about("DRAWN: a CURVE more (12 at most)");
        Run eleven = told("r12;w3;p999;").times(10, "draws 0 0 1 0 0").due("draws 0 0 2 1 0", 10).then("draws 0 0 2 1 0");
        Run twelve = eleven.due("draws 0 0 3 2 0", 11).then("draws 0 0 3 2 0").due("now 1", 12);
        twelve.refuses("draws 0 0 1 0 0", FULL).refuses("draws 0 0 9 11 0", FULL);
        twelve.then("rubs 0").due("draws 0 0 1 0 0", 11).then("draws 0 0 1 0 0").refuses("draws 0 0 1 0 0", FULL);
        twelve.then("undo").due("draws 0 0 1 0 0", 11);
        twelve.then("keep 0", "rubs 0", "back 0").refuses("draws 0 0 1 0 0", FULL);
    }

    private static void lessInk() {
        is.about("the PEN has LONG less INK");
        Run run = told("r12;r24;w3;w5;p11;p12;p13;p119;");
        run.refuses("draws 0 0 1 0 0", STATE);
        run.due("draws 0 0 1 0 1", 0).then("draws 0 0 1 0 1").due("pen 1 0", 0).due("pen 0 0", 11).due("pen 2 0", 13);
        run.due("draws 0 0 1 0 2", 0).then("draws 0 0 1 0 2").due("pen 2 0", 1).refuses("draws 0 0 1 0 2", STATE);
        run.then("draws 0 0 1 0 1").refuses("draws 0 0 1 0 1", STATE);
        run.refuses("draws 1 1 1 0 3", STATE).then("fills 3 1").due("draws 1 1 1 0 3", 0).then("draws 1 1 1 0 3").due("pen 3 0", 0);
        told("r120;w97;w7;p0;p840;p839;p999;").refuses("draws 0 0 1 0 3", STATE).refuses("draws 0 1 1 0 2", STATE)
            .refuses("draws 0 1 1 0 0", STATE).due("draws 0 1 1 0 1", 0).then("draws 0 1 1 0 3").due("pen 3 0", 159);
    }

    private static void drawsFirstOfThese() {
        is.about("DRAWN: its number. BAD; STATE: the WHEEL does not fit, there is less INK; FULL.");
        Run room = told("r12;w3;w12;p999;p0;");
        Run full = room.times(12, "draws 0 0 1 0 0");
        for (Run run : new Run[] {room, full}) {
            String[] bad = {"draws 1 1 1 0 1", "draws 0 2 1 0 1", "draws 0 1 0 0 1", "draws 0 1 10 0 1", "draws 0 1 1 12 1",
                "draws 0 1 1 -1 1", "draws 0 1 1 0 2", "draws -1 -1 -1 -1 -1", "draws 0 0 1 12 1", "draws 0 0 10 0 0"};
            for (String call : bad) {
                run.refuses(call, BAD);
            }
            run.refuses("draws 0 1 1 0 0", STATE).refuses("draws 0 0 1 0 1", STATE).refuses("draws 0 1 9 11 1", STATE);
        }
        full.refuses("draws 0 0 1 0 0", FULL);
    }

    private static void rubbed() {
        is.about("RUBBED out: how many CURVES there are. BAD.");
        told("r12;w3;p999;").refuses("rubs 0", BAD).then("draws 0 0 1 0 0").bounds("rubs #", 0, 0, BAD).due("rubs 0", 0)
            .then("rubs 0").due("now 1", 0).due("now 2", 0).due("pen 0 0", 987).refuses("rubs 0", BAD);
        Run twelve = told("r12;w3;p999;").times(12, "draws 0 0 1 0 0").bounds("rubs #", 0, 11, BAD);
        twelve.due("rubs 0", 11).due("rubs 11", 11).then("rubs 11").bounds("rubs #", 0, 10, BAD);
        Rich.run(is).bounds("rubs #", 0, 1, BAD);
    }

    private static void laterOnesNumberedLess() {
        is.about("a CURVE is gone, later ones are numbered one less");
        Run twelve = told("r12;w3;p999;");
        for (int k = 0; k < 12; k++) {
            twelve = twelve.then("draws 0 0 1 " + k + " 0");
        }
        for (int gone = 0; gone < 12; gone++) {
            Run run = twelve.then("rubs " + gone);
            for (int k = 0; k < 11; k++) {
                run.due("curve " + k + " 3", k < gone ? k : k + 1);
            }
            run.due("curve 11 3", BAD);
        }
    }

    private static void turned() {
        is.about("TURNED by n (1 .. 359)");
        Run.fresh(is).bounds("spins #", 1, 359, BAD).refuses("spins 0", BAD).due("spins 1", 1).due("spins 359", 359);
        Rich.run(is).bounds("spins #", 1, 359, BAD);
    }

    private static void howItLies() {
        is.about("TURNED: how it LIES. BAD.");
        Rich.run(is).due("now 0", 10).due("spins 1", 11).due("spins 349", 359).due("spins 350", 0).due("spins 351", 1).due("spins 359", 9);
        Rich.run(is).refuses("spins 0", BAD).refuses("spins -1", BAD).refuses("spins -350", BAD).refuses("spins 360", BAD).refuses("spins 720", BAD);
    }

    private static void turnedLeftOver() {
        is.about("THE PAPER LIES n more (left over by 360)");
        Run one = Run.fresh(is).then("spins 1").due("spins 357", 358).due("spins 358", 359).due("spins 359", 0);
        one.then("spins 359").due("now 0", 0).due("spins 1", 1);
        Run last = Run.fresh(is).then("spins 359").due("spins 1", 0).due("spins 2", 1).due("spins 359", 358);
        last.then("spins 1").due("now 0", 0);
        // How it lies now does not matter for a curve that is there.
        told("r12;w3;p99;").then("draws 0 0 1 0 0", "spins 359", "spins 2").due("curve 0 5", 0).due("shown 0 1", 0).due("shown 1 1", NONE);
    }

    private static void filled() {
        is.about("FILLED: a PEN has n (1 .. 999) more INK");
        Run run = told("p0;p1;p998;p999;").bounds("fills 0 #", 1, 999, BAD).bounds("fills 2 #", 1, 999, BAD);
        run.bounds("fills # 1", 0, 3, BAD).due("fills 0 1", 1).due("fills 0 998", 998).due("fills 0 999", 999);
        run.then("fills 0 1").due("pen 0 0", 1).due("pen 1 0", 1).due("pen 2 0", 998);
        told("r12;").refuses("fills 0 1", BAD);
        Rich.run(is).bounds("fills # 1", 0, 1, BAD).bounds("fills 1 #", 1, 999, BAD);
    }

    private static void filledAtMost() {
        is.about("(999 at most)");
        Run run = told("p0;p1;p998;p500;");
        run.due("fills 1 997", 998).due("fills 1 998", 999).due("fills 1 999", 999);
        run.due("fills 2 1", 999).due("fills 2 2", 999).due("fills 2 999", 999).then("fills 2 999").due("pen 2 0", 999);
        run.due("fills 3 498", 998).due("fills 3 499", 999).due("fills 3 500", 999);
        // What was beyond is not undone either.
        run.then("fills 3 999", "undo").isAs("undone", run);
    }

    private static void filledState() {
        is.about("FILLED: INK. BAD; STATE: it has 999.");
        Run run = told("p999;p998;").refuses("fills 0 1", STATE).refuses("fills 0 999", STATE).bounds("fills 0 #", 1, 999, BAD);
        run.due("fills 1 1", 999).then("fills 1 1").refuses("fills 1 1", STATE);
        Run drawn = told("r12;w3;p999;").refuses("fills 0 1", STATE).then("draws 0 0 1 0 0").due("fills 0 11", 998).due("fills 0 12", 999);
        drawn.then("fills 0 13").refuses("fills 0 1", STATE).then("undo").due("fills 0 1", 988);
    }

    private static void latestShows() {
        is.about("SHOWN at a POINT, a LINE: the latest CURVE that has a TIP there.");
        Run run = told("r12;w3;w4;p999;").due("shown 0 1", NONE).then("draws 0 0 1 0 0").due("shown 0 1", 0);
        Run two = run.then("draws 0 1 1 0 0").due("shown 0 1", 1).due("shown 90 1", 0).due("shown 120 1", 1).due("shown 30 1", NONE);
        two.then("rubs 1").due("shown 0 1", 0).due("shown 120 1", NONE);
        two.then("rubs 0").due("shown 0 1", 0).due("shown 90 1", NONE).due("shown 120 1", 0);
        two.times(10, "draws 0 0 1 0 0").due("shown 0 1", 11).due("shown 120 1", 1);
    }

    private static void shownOrNone() {
        is.about("SHOWN; NONE. BAD.");
        Run.fresh(is).refuses("shown 0 0", BAD).refuses("shown 360 9", BAD).refuses("shown -1 10", BAD).due("shown 0 9", NONE);
        Run run = told("r12;w11;p999;").then("draws 0 0 5 0 0").due("shown 0 5", 0).due("shown 330 5", 0);
        run.due("shown 1 5", NONE).due("shown 331 5", NONE).due("shown 359 5", NONE).due("shown 0 4", NONE).due("shown 0 6", NONE);
        run.bounds("shown # 5", 0, 359, BAD).bounds("shown 330 #", 1, 9, BAD).then("rubs 0").due("shown 0 5", NONE);
    }

    private static void undoneNone() {
        is.about("UNDONE: how many more may be. STATE: none.");
        Run.fresh(is).refuses("undo", STATE);
        told("r12;w3;p99;").refuses("undo", STATE).then("draws 0 0 1 0 0").due("undo", 0).then("undo").refuses("undo", STATE);
        Rich.run(is).due("undo", 6).times(6, "undo").due("undo", 0).then("undo").refuses("undo", STATE);
    }

    private static void undoneAsAhead() {
        is.about("UNDONE: the latest DRAWN, RUBBED, TURNED, FILLED .. all is as ahead of it.");
        Run rich = Rich.run(is);
        String[] changes = {"draws 0 0 9 11 0", "draws 1 3 1 0 0", "rubs 0", "rubs 1", "spins 1", "spins 359", "fills 0 1", "fills 1 999"};
        for (String call : changes) {
            rich.then(call).isNotAs("changed by " + call, rich);
            rich.then(call, "undo").isAs("undone: " + call, rich);
            rich.then(call, "spins 7", "undo", "undo").isAs("undone with a later one: " + call, rich);
        }
        // What is no DRAWN, RUBBED, TURNED, FILLED is not undone.
        Run ahead = told(Rich.TEXT).then("draws 0 0 1 0 0");
        ahead.then("sees 1 1", "keep 1", "mark 5 0", "type 65", "undo").isAs("only the curve is undone",
            told(Rich.TEXT).then("draws 0 0 1 0 0", "keep 1", "mark 5 0", "undo", "sees 1 1", "type 65"));
    }

    private static void tenAreKnown() {
        is.about("(10 are known, older ones are lost)");
        for (int changes = 9; changes <= 12; changes++) {
            int known = Math.min(changes, 10);
            Run run = Run.fresh(is).times(changes, "spins 1").due("count 4", known).due("undo", known - 1);
            Run undone = run.times(known, "undo").due("now 0", changes - known).due("count 4", 0).refuses("undo", STATE);
            undone.then("spins 5").due("undo", 0);
            run.times(known - 1, "undo").due("undo", 0);
        }
        Run mixed = told("r12;w3;p500;").then("draws 0 0 1 0 0", "spins 1", "fills 0 1", "rubs 0").times(7, "spins 2").due("count 4", 10);
        mixed.times(10, "undo").due("now 1", 1).due("now 0", 0).due("pen 0 0", 488).refuses("undo", STATE);
        Run.fresh(is).times(10, "spins 1").times(3, "undo").times(3, "spins 2").due("count 4", 10).due("undo", 9)
            .times(10, "undo").due("now 0", 0);
        Run.fresh(is).times(10, "spins 1").times(3, "undo").times(4, "spins 2").due("count 4", 10).times(10, "undo").due("now 0", 1);
    }

    private static void refusedIsNotUndone() {
        is.about("Refused, and nothing changes");
        Run ten = told("r12;w3;w12;p999;p0;").then("draws 0 0 1 0 0").times(9, "spins 1");
        String[] refused = {"draws 0 1 1 0 0", "draws 0 0 1 0 1", "draws 0 0 0 0 0", "rubs 1", "spins 0", "spins 360", "fills 0 0", "fills 2 1"};
        for (String call : refused) {
            ten.refuses(call, call.equals("draws 0 1 1 0 0") || call.equals("draws 0 0 1 0 1") ? STATE : BAD);
        }
        ten.then("fills 0 999").refuses("fills 0 1", STATE).due("count 4", 10);
        ten.times(10, "undo").refuses("undo", STATE).due("now 1", 0);
    }

    private static void firstOfThese() {
        is.about("the first of these: BAD (a number is not as told, or there is no such thing), STATE (as told), FULL.");
        Run full = told("r12;w3;w12;p999;p0;").times(12, "draws 0 0 1 0 0").then("fills 0 999").times(6, "sees 0 0").times(100, "type 32");
        String[] bad = {
            "draws 0 1 10 0 1", "draws 0 0 10 0 1", "draws 0 0 10 0 0", "draws 0 1 1 12 0", "fills 0 1000", "fills 0 0", "fills 2 0",
            "odds 0 1 360 0", "odds 0 1 0 2", "back 2", "back -1", "sees 120 0", "sees 0 2", "type 256", "type -1"};
        for (String call : bad) {
            full.refuses(call, BAD);
        }
        String[] state = {"draws 0 1 1 0 0", "draws 0 0 1 0 1", "draws 0 1 1 0 1", "fills 0 1", "odds 0 1 0 0", "back 0", "back 1"};
        for (String call : state) {
            full.refuses(call, STATE);
        }
        full.refuses("draws 0 0 1 0 0", FULL).refuses("sees 0 1", FULL).refuses("type 32", FULL);
    }

    private static void nowWhat() {
        is.about("0 how THE PAPER LIES, 1 CURVES, 2 at how many POINTS of all LINES a CURVE is SHOWN, 3 LIKE. BAD.");
        Run.fresh(is).bounds("now #", 0, 3, BAD).due("now 0", 0).due("now 1", 0).due("now 2", 0).due("now 3", 360);
        Rich.run(is).bounds("now #", 0, 3, BAD);
        Run most = told("r120;r90;r72;w7;p999;p999;p999;");
        most = most.then("draws 0 0 1 0 0", "draws 1 0 9 0 1", "draws 2 0 5 0 2", "fills 0 999").due("now 2", 282);
        // Points of one line are counted once, of two lines apart.
        most.then("draws 0 0 1 0 0").due("now 2", 282).due("now 1", 4);
        most.then("draws 0 0 2 0 0").due("now 2", 402);
    }
}
