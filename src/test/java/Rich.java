/** Runs behind which there is something of everything, so that a change of anything shows. */
final class Rich {
    static final String TEXT = "r12;r24;w3;w4;w12;w5;p200;p30;";

    private Rich() {
    }

    /** 2 curves, of which one lies over a part of the other, 7 to be undone, both images, 2 seen, lies 10, half a text. */
    static Run run(Checks is) {
        return with(is, "p7");
    }

    /** The same with another text; questions are put ahead, so that what the object may keep of them is there, too. */
    static Run with(Checks is, String text) {
        return Run.fresh(is).told(TEXT).then(
            "draws 0 0 1 0 0", "draws 0 1 1 1 0", "keep 0", "spins 330", "draws 0 1 1 0 1", "fills 1 10", "rubs 1", "keep 1",
            "spins 40", "sees 2 1", "sees 3 0", "mark 3 0", "best 0 0", "closes 1 1 0", "look 1").typed(text);
    }

    /** As much of everything as there may be: 12 curves, 999 ink, 10 to be undone, 6 seen, 100 bytes, both images. */
    static Run brim(Checks is) {
        return Run.fresh(is).told("r12;r24;r15;r120;w3;w4;w12;w5;w6;w99;p999;p999;p0;p5;").then("keep 1", "draws 0 0 1 0 1", "keep 0")
            .times(11, "draws 0 4 1 1 0").then("spins 359", "fills 0 999", "mark 5 0", "best 1 0")
            .times(5, "sees 1 0").then("sees 2 1").typed("r12;" + " ".repeat(94) + "p1").due("count 4", 10).due("now 1", 12);
    }

    /** Curves that can't be undone any more, and no images. */
    static Run lost(Checks is) {
        return Run.fresh(is).told(TEXT).then("draws 0 0 1 0 0", "draws 0 1 1 1 0", "spins 7").times(10, "fills 1 1").times(10, "undo")
            .then("sees 2 1", "mark 4 1", "best 0 0").typed("w4").due("count 4", 0).due("now 1", 2);
    }
}
