/** The boundary cases of the document's part 1 (the box, and the text that tells it) and of promises 1 to 5. */
public final class TextEdgesTest {
    private static final int BAD = PetalWheels.BAD;
    private static final int STATE = PetalWheels.STATE;
    private static final int FULL = PetalWheels.FULL;
    private static final int NONE = PetalWheels.NONE;
    private static final int NO = PetalWheels.NO;
    private static final String ALL_ITEMS = "r12;r15;r18;r20;w3;w4;w5;w6;w7;w8;p1;p2;p3;p4;";

    private static final Checks is = new Checks();

    public static void main(String[] args) {
        calls512();
        newObject();
        rings();
        ofRing();
        teeth();
        wheels();
        cogs();
        pens();
        ink();
        hundredBytes();
        typedBytes();
        cleared();
        blanks();
        everyByte();
        items();
        letterFaults();
        tokenFaults();
        roomFaults();
        numberFaults();
        byteFaults();
        longNumberFaults();
        zeroAheadFaults();
        endFaults();
        firstFault();
        faultChangesNothing();
        is.end();
    }

    private static Run fresh() {
        return Run.fresh(is);
    }

    private static String blanks(int n) {
        return " ".repeat(n);
    }

    /** That text is read: so many items. */
    private static void reads(String text, int items) {
        fresh().typed(text).due("box", items);
    }

    /** That text can't be read, and nothing has changed, the text neither. */
    private static void faults(String text, int place) {
        is.due("box of " + text, answerTo(text), -10 - place);
        fresh().typed(text).refuses("box", -10 - place);
    }

    private static int answerTo(String text) {
        PetalWheels x = new PetalWheels();
        Checks.type(x, text);
        return x.box();
    }

    private static void calls512() {
        is.about("An object is used for at most 512 calls after it has been made");
        fresh().times(511, "spins 1").due("spins 1", 512 - 360);
        fresh().times(502, "spins 1").times(9, "undo").due("undo", 0);
        fresh().times(500, "spins 1").times(10, "undo").due("undo", STATE).due("now 0", 500 - 10 - 360);
        fresh().times(511, "keep 0").due("back 0", 0);
        fresh().times(511, "box").due("box", 0);
        fresh().told("r12;w3;p999;").times(496, "spins 1").then("draws 0 0 1 0 0").due("curve 0 5", 496 - 360);
    }

    private static void newObject() {
        is.about("As told; no RINGS, WHEELS, PENS.");
        String[] calls = {
            "clear", "box", "ring 0", "wheel 0 0 0", "pen 0 0", "curve 0 0", "draws 0 0 1 0 0", "rubs 0", "fills 0 1", "undo",
            "now 0", "now 1", "now 2", "now 3", "shown 0 1", "petals 0 1", "closes 0 1 0", "best 0 0", "meet 0 1",
            "odds 0 0 0 0", "forget", "guess 0 0", "look 0", "mark 0 0", "back 0", "back 1", "trace",
            "count 0", "count 1", "count 2", "count 3", "count 4", "count 5"};
        long[] wants = {
            0, 0, BAD, BAD, BAD, BAD, BAD, BAD, BAD, STATE,
            0, 0, 0, 360, NONE, BAD, BAD, BAD, BAD,
            BAD, 0, BAD, BAD, NO, STATE, STATE, 0,
            0, 0, 0, 0, 0, 0};
        for (int i = 0; i < calls.length; i++) {
            fresh().due(calls[i], wants[i]).isAskedFreely(calls[i]);
        }
        fresh().due("type 0", 1).due("spins 1", 1).due("sees 0 0", 1).due("keep 0", 0).due("keep 1", 0);
    }

    private static void rings() {
        is.about("RINGS 0 .. (4 at most)");
        reads("", 0);
        fresh().told("r12;").due("count 0", 1).bounds("ring #", 0, 0, BAD);
        fresh().told("r12;r15;r18;").due("count 0", 3).bounds("ring #", 0, 2, BAD);
        fresh().told("r12;r15;r18;r20;").due("count 0", 4).due("ring 0", 12).due("ring 3", 20).bounds("ring #", 0, 3, BAD);
        faults("r12;r15;r18;r20;r24;", 16);
        faults("w3;r12;r15;p1;r18;r20;  r24;", 24);
    }

    private static void ofRing() {
        is.about("TEETH of a RING. BAD.");
        fresh().refuses("ring 0", BAD).refuses("ring -1", BAD);
        fresh().told("w3;p1;").refuses("ring 0", BAD);
        Rich.run(is).bounds("ring #", 0, 1, BAD).due("ring 0", 12).due("ring 1", 24);
        // What was told ahead is not there any more.
        Rich.with(is, "").told("r120;").due("ring 0", 120).refuses("ring 1", BAD);
    }

    private static void teeth() {
        is.about("TEETH (12 .. 120, a number that divides 360)");
        for (int n = 0; n <= 1000; n++) {
            is.due("TEETH " + n, answerTo("r" + n + ";"), n >= 12 && n <= 120 && 360 % n == 0 ? 1 : -11);
        }
        fresh().told("r12;").due("ring 0", 12);
        fresh().told("r120;").due("ring 0", 120);
        int[] wrong = {0, 1, 10, 11, 13, 119, 121, 180, 360, 999};
        for (int n : wrong) {
            faults("r" + n + ";", 1);
        }
    }

    private static void wheels() {
        is.about("WHEELS 0 .. (6 at most)");
        fresh().told("r12;").bounds("ring #", 0, 0, BAD).refuses("wheel 0 0 0", BAD);
        fresh().told("r12;w3;").due("count 1", 1).bounds("wheel 0 # 0", 0, 0, BAD);
        fresh().told("r12;w3;w4;w5;w6;w7;").due("count 1", 5).bounds("wheel 0 # 0", 0, 4, BAD);
        fresh().told("r12;w3;w4;w5;w6;w7;w8;").due("count 1", 6).due("wheel 0 0 0", 3).due("wheel 0 5 0", 8)
            .bounds("wheel 0 # 0", 0, 5, BAD);
        faults("w3;w4;w5;w6;w7;w8;w9;", 18);
        faults("w3;w4;w5;w6;w7;w8;r12;w9;", 22);
    }

    private static void cogs() {
        is.about("COGS (3 .. 99)");
        for (int n = 0; n <= 1000; n++) {
            is.due("COGS " + n, answerTo("w" + n + ";"), n >= 3 && n <= 99 ? 1 : -11);
        }
        fresh().told("r12;w3;").due("wheel 0 0 0", 3);
        fresh().told("r12;w99;").due("wheel 0 0 0", 99);
        int[] wrong = {0, 2, 100, 999};
        for (int n : wrong) {
            faults("w" + n + ";", 1);
        }
    }

    private static void pens() {
        is.about("PENS 0 .. (4 at most)");
        fresh().told("p7;").due("count 2", 1).bounds("pen # 0", 0, 0, BAD);
        fresh().told("p7;p8;p9;").due("count 2", 3).bounds("pen # 0", 0, 2, BAD);
        fresh().told("p7;p8;p9;p10;").due("count 2", 4).due("pen 0 0", 7).due("pen 3 0", 10).bounds("pen # 0", 0, 3, BAD);
        faults("p7;p8;p9;p10;p11;", 13);
        faults("p7;p8;w3;p9;p10;r12;p11;", 20);
    }

    private static void ink() {
        is.about("INK (0 .. 999)");
        for (int n = 0; n <= 1000; n++) {
            is.due("INK " + n, answerTo("p" + n + ";"), n <= 999 ? 1 : -11);
        }
        fresh().told("p0;").due("pen 0 0", 0);
        fresh().told("p1;").due("pen 0 0", 1);
        fresh().told("p998;").due("pen 0 0", 998);
        fresh().told("p999;").due("pen 0 0", 999);
        faults("p1000;", 1);
    }

    private static void hundredBytes() {
        is.about("They are a text (100 bytes at most)");
        String text = ALL_ITEMS + blanks(99 - ALL_ITEMS.length());
        fresh().typed(text).due("count 5", 99).due("type 32", 100).due("clear", 99).due("box", 14);
        Run full = Rich.with(is, text + " ").due("count 5", 100).due("clear", 100).due("box", 14);
        full.refuses("type 32", FULL).refuses("type 0", FULL).refuses("type 255", FULL);
        full.then("clear").due("type 32", 1);
        full.then("box").due("type 32", 1).due("pen 3 0", 4);
        reads("p1" + blanks(96) + ";", 1);
        reads("p1" + blanks(97) + ";", 1);
        fresh().typed("p1" + blanks(98)).refuses("type 59", FULL).refuses("box", -110);
        fresh().typed(blanks(99) + "p").refuses("box", -110);
        fresh().typed(blanks(99) + "x").refuses("box", -109);
        fresh().typed(blanks(98) + "p1").refuses("box", -110);
        fresh().typed(blanks(97) + "p1;").due("box", 1).then("box").due("pen 0 0", 1);
        reads(blanks(100), 0);
    }

    private static void typedBytes() {
        is.about("A byte (0 .. 255) comes to THE TEXT: how many it has. BAD; FULL.");
        fresh().bounds("type #", 0, 255, BAD).due("type 0", 1).due("type 255", 1);
        Rich.with(is, blanks(98)).bounds("type #", 0, 255, BAD).due("type 1", 99);
        Rich.with(is, blanks(99)).bounds("type #", 0, 255, BAD).due("type 1", 100);
        // BAD is the first of these.
        Rich.with(is, blanks(100)).bounds("type #", 0, 255, BAD).refuses("type 256", BAD).refuses("type 255", FULL);
    }

    private static void cleared() {
        is.about("THE TEXT is empty: how many bytes it had.");
        Rich.with(is, "").refuses("clear", 0);
        Rich.with(is, "x").due("clear", 1).then("clear").isAs("cleared", Rich.with(is, ""));
        Rich.with(is, blanks(99)).due("clear", 99).then("clear").isAs("cleared", Rich.with(is, ""));
        Rich.with(is, blanks(100)).due("clear", 100).then("clear").isAs("cleared", Rich.with(is, "")).refuses("clear", 0);
    }

    private static void blanks() {
        is.about("read byte by byte, blanks (32) between TOKENS");
        reads("p1;w3;", 2);
        reads(" p 1 ; w 3 ; ", 2);
        reads("   p   1   ;   w   3   ;   ", 2);
        reads(" ", 0);
        faults("p 1 2;", 4);
        faults("p p1;", 2);
        faults("p1; ;", 4);
        int[] others = {0, 9, 10, 11, 12, 13, 31, 33, 160, 255};
        for (int c : others) {
            faults("p" + (char) c + "1;", 1);
            faults("p1" + (char) c + ";", 2);
            faults("p1;" + (char) c, 3);
            faults((char) c + "p1;", 0);
        }
    }

    private static void everyByte() {
        is.about("TOKENS are letters a .. z side by side, NUMBERS and ; .");
        for (int c = 0; c <= 255; c++) {
            boolean blank = c == ' ';
            boolean digit = c >= '0' && c <= '9';
            boolean letter = c >= 'a' && c <= 'z';
            String name = "byte " + c;
            is.due(name + " first", answerTo((char) c + "1;"), c == 'p' ? 1 : blank || c == 'r' || c == 'w' ? -11 : -10);
            is.due(name + " behind a letter", answerTo("p" + (char) c + "1;"), blank || digit && c != '0' ? 1 : letter ? -10 : -11);
            is.due(name + " behind a number", answerTo("p1" + (char) c + ";"), blank || digit ? 1 : c == ';' ? -13 : -12);
            is.due(name + " behind an item", answerTo("p1;" + (char) c), blank ? 1 : c == 'r' || c == 'w' || c == 'p' ? -14 : -13);
        }
    }

    private static void items() {
        is.about("THE TEXT tells all, and is empty then: how many ITEMS.");
        reads("", 0);
        reads("p0;", 1);
        reads(ALL_ITEMS, 14);
        Run all = fresh().told(ALL_ITEMS).due("count 0", 4).due("count 1", 6).due("count 2", 4).due("count 5", 0);
        all.then("box").isAs("an empty text tells that there is nothing", fresh());
        all.typed(" ").then("box").isAs("so do blanks", fresh());
        all.told("p5;").isAs("what was told ahead is gone", fresh().told("p5;"));
        // As many as there may be can be told again: those that were told ahead don't count.
        all.told(ALL_ITEMS).isAs("told again", all);
    }

    private static void letterFaults() {
        is.about("letters that begin no ITEM");
        for (char c = 'a'; c <= 'z'; c++) {
            if (c != 'r' && c != 'w' && c != 'p') {
                faults(c + "12;", 0);
            }
            faults("r12;r" + c + "12;", 4);
            faults("r12; " + c + "w3;", 5);
        }
        faults("ring 12;", 0);
        faults("rwp12;", 0);
        faults("R12;", 0);
    }

    private static void tokenFaults() {
        is.about("the place of the first byte of the first TOKEN that can't stand there");
        faults("12;", 0);
        faults("  12;", 2);
        faults(";", 0);
        faults("p1;;", 3);
        faults("p1; 2;", 4);
        faults("p w3;", 2);
        faults("p;", 1);
        faults("p  ;", 3);
        faults("p1w3;", 2);
        faults("p1  w3;", 4);
        faults("p1 2;", 3);
        faults("p1 2", 3);
    }

    private static void roomFaults() {
        is.about("a fifth RING, a seventh WHEEL, a fifth PEN");
        faults("r12;r12;r12;r12;r12;", 16);
        faults("r12;r12;r12;r12;r", 16);
        faults("r12;r12;r12;r12;r13;", 16);
        faults("r12;r12;r12;r12; r", 17);
        faults("w3;w3;w3;w3;w3;w3;w3;", 18);
        faults("w3;w3;w3;w3;w3;w3;w1;", 18);
        faults("p0;p0;p0;p0;p0;", 12);
        faults("p0;p0;p0;p0;p 1000;", 12);
        faults("p0;p0;p0;p0;p", 12);
    }

    private static void numberFaults() {
        is.about("a NUMBER beyond what it may be, too");
        faults("r11;", 1);
        faults("r 13;", 2);
        faults("r  121;", 3);
        faults("r12;r 180;", 6);
        faults("r11", 1);
        faults("w2;", 1);
        faults("w 100;", 2);
        faults("w3;w3;w3;w3;w3;w 2;", 17);
        faults("r12;r12;r12;r14;", 13);
    }

    private static void byteFaults() {
        is.about("of a byte that begins none .. that TOKEN's");
        int[] bytes = {0, 31, '!', '-', '+', '.', ',', '/', ':', '<', 'A', 'Z', '`', '{', 127, 128, 200, 255};
        for (int c : bytes) {
            faults("" + (char) c, 0);
            faults("  " + (char) c + "p1;", 2);
            faults("p" + (char) c + "1;", 1);
            faults("p1" + (char) c, 2);
            faults("p1;" + (char) c, 3);
            faults("pq" + (char) c, 0);
        }
    }

    private static void longNumberFaults() {
        is.about("a NUMBER above 999");
        reads("p999;", 1);
        String[] numbers = {"1000", "9999", "99999", "2147483648", "4294967296", "4294967300", "18446744073709551617"};
        for (String n : numbers) {
            faults("p" + n + ";", 1);
            faults("w  " + n + ";", 3);
            faults("r" + n + ";", 1);
            faults(n + ";", 0);
            faults("p1 " + n + ";", 3);
            faults("p" + n, 1);
        }
        faults("p" + "9".repeat(99), 1);
        faults("p1" + "0".repeat(98), 1);
    }

    private static void zeroAheadFaults() {
        is.about("or with a 0 ahead of others");
        reads("p0;", 1);
        String[] numbers = {"00", "01", "010", "000", "0999", "00000000001"};
        for (String n : numbers) {
            faults("p" + n + ";", 1);
            faults("p " + n, 2);
            faults(n + ";", 0);
            faults("p1 " + n + ";", 3);
        }
        faults("r012;", 1);
        faults("w03;", 1);
        faults("p" + "0".repeat(99), 1);
        reads("p 0 ; p 10 ; p 100 ;", 3);
        faults("p 0 0;", 4);
    }

    private static void endFaults() {
        is.about("the text's length, if it ends too early");
        faults("r", 1);
        faults("r ", 2);
        faults("r12", 3);
        faults("r12  ", 5);
        faults("r12;w", 5);
        faults("r12; w3  ", 9);
        faults(" p", 2);
        faults("   p   0   ", 11);
        reads("r12;", 1);
        reads("r12;   ", 1);
    }

    private static void firstFault() {
        is.about("the first TOKEN that can't stand there");
        faults("r13; w2;", 1);
        faults("x !", 0);
        faults("p1; 01 !", 4);
        faults("p! x", 1);
        faults("r12;r12;r12;r12;r12;p1000;", 16);
        faults("p1000;r12;r12;r12;r12;r12;", 1);
        faults("p1 p", 3);
    }

    private static void faultChangesNothing() {
        is.about("-10 less FAULT: nothing changes.");
        Rich.with(is, "x").refuses("box", -10);
        Rich.with(is, "r12;w3;p1").refuses("box", -19);
        Rich.with(is, "r12;w3;p1000;").refuses("box", -18);
        Rich.with(is, "r12;w3;p1").then("type 59").due("box", 3);
        Rich.with(is, ALL_ITEMS + "p").refuses("box", -10 - ALL_ITEMS.length());
    }
}
