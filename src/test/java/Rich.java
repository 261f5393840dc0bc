/** A run behind which there is something of everything, so that a change of anything shows. */
final class Rich {
    static final String TEXT = "r12;r24;w3;w4;w12;w5;p200;p30;";

    private Rich() {
    }

    /** 2 curves, of which one lies over a part of the other, 7 to be undone, both images, 2 seen, lies 10. */
    static Run run(Checks is) {
        return Run.fresh(is).told(TEXT).then(
            "draws 0 0 1 0 0", "draws 0 1 1 1 0", "keep 0", "spins 330", "draws 0 1 1 0 1", "fills 1 10", "rubs 1", "keep 1",
            "spins 40", "sees 2 1", "sees 3 0", "mark 3 0");
    }

    static Run with(Checks is, String text) {
        return run(is).typed(text);
    }
}
