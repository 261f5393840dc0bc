/** Each promise of the document by itself: ordinary inputs, the edges that it names, wrong inputs. */
public final class PromisesTest {
    private static final int BAD = PetalWheels.BAD;
    private static final int STATE = PetalWheels.STATE;
    private static final int FULL = PetalWheels.FULL;
    private static final int NONE = PetalWheels.NONE;
    private static final int NO = PetalWheels.NO;
    private static final int LOW = Integer.MIN_VALUE;
    private static final int HIGH = Integer.MAX_VALUE;

    private static final Checks is = new Checks();

    public static void main(String[] args) {
        promise01New();
        promise02Type();
        promise03Clear();
        promise04BoxReads();
        promise04BoxFaults();
        promise04BoxReadsAnew();
        promise05Ring();
        promise06Wheel();
        promise07Pen();
        promise08Curve();
        promise09Draws();
        promise10Rubs();
        promise11Spins();
        promise12Fills();
        promise13Undo();
        promise13UndoForgets();
        promise14Now();
        promise14Like();
        promise15Shown();
        promise16Petals();
        promise17Closes();
        promise18Best();
        promise19Meet();
        promise20Odds();
        promise21Sees();
        promise22Forget();
        promise23Guess();
        promise24Look();
        promise25Mark();
        promise26Keep();
        promise27Back();
        promise28Count();
        promise29Trace();
        is.end();
    }

    private static int fault(String text) {
        PetalWheels x = new PetalWheels();
        Checks.type(x, text);
        int answer = x.box();
        is.due("bytes after a fault in " + text, x.count(5), text.length());
        return answer;
    }

    private static void promise01New() {
        PetalWheels x = new PetalWheels();
        for (int what = 0; what <= 5; what++) {
            is.due("1 count", x.count(what), 0);
        }
        is.due("1 lies", x.now(0), 0);
        is.due("1 curves", x.now(1), 0);
        is.due("1 points", x.now(2), 0);
        is.due("1 like", x.now(3), 360);
        is.due("1 trace", x.trace(), 0);
        is.due("1 ring", x.ring(0), BAD);
        is.due("1 wheel", x.wheel(0, 0, 0), BAD);
        is.due("1 pen", x.pen(0, 0), BAD);
        is.due("1 curve", x.curve(0, 0), BAD);
        is.due("1 undo", x.undo(), STATE);
        is.due("1 back", x.back(0), STATE);
        is.due("1 BAD", PetalWheels.BAD, -1);
        is.due("1 STATE", PetalWheels.STATE, -2);
        is.due("1 FULL", PetalWheels.FULL, -3);
        is.due("1 NONE", PetalWheels.NONE, -9);
        is.due("1 NO", PetalWheels.NO, -1000000);
    }

    private static void promise02Type() {
        PetalWheels x = new PetalWheels();
        is.due("2 lowest", x.type(0), 1);
        is.due("2 highest", x.type(255), 2);
        is.due("2 below", x.type(-1), BAD);
        is.due("2 above", x.type(256), BAD);
        is.due("2 low", x.type(LOW), BAD);
        is.due("2 high", x.type(HIGH), BAD);
        for (int n = 3; n <= 100; n++) {
            is.due("2 byte", x.type(' '), n);
        }
        is.due("2 full", x.type(' '), FULL);
        is.due("2 bad ahead of full", x.type(256), BAD);
        is.due("2 bytes", x.count(5), 100);
    }

    private static void promise03Clear() {
        PetalWheels x = new PetalWheels();
        is.due("3 empty", x.clear(), 0);
        Checks.type(x, "r12");
        is.due("3 had", x.clear(), 3);
        is.due("3 again", x.clear(), 0);
        Checks.type(x, "w5;");
        is.due("3 only the later is read", x.box(), 1);
        is.due("3 rings", x.count(0), 0);
        is.due("3 wheels", x.count(1), 1);
    }

    private static void promise04BoxReads() {
        PetalWheels x = new PetalWheels();
        Checks.type(x, "  p 0;r12 ;w   3; p999 ; r120;w99;  ");
        is.due("4 items", x.box(), 6);
        is.due("4 empty then", x.count(5), 0);
        is.due("4 rings", x.count(0), 2);
        is.due("4 wheels", x.count(1), 2);
        is.due("4 pens", x.count(2), 2);
        is.due("4 ring 1", x.ring(1), 120);
        is.due("4 wheel 1", x.wheel(0, 1, 0), 99);
        is.due("4 pen 1", x.pen(1, 0), 999);
        Checks.type(x, "r12;r15;r18;r20;w3;w4;w5;w6;w7;w8;p1;p2;p3;p4;");
        is.due("4 all there may be", x.box(), 14);
        is.due("4 empty text", x.box(), 0);
        is.due("4 tells all", x.count(0), 0);
        Checks.type(x, "   ");
        is.due("4 blanks", x.box(), 0);
        int[] teeth = {12, 15, 18, 20, 24, 30, 36, 40, 45, 60, 72, 90, 120};
        int next = 0;
        for (int t = 0; t <= 999; t++) {
            boolean may = next < teeth.length && teeth[next] == t;
            is.due("4 teeth " + t, new Reading("r" + t + ";").answer, may ? 1 : -11);
            next += may ? 1 : 0;
        }
        for (int c = 0; c <= 999; c++) {
            is.due("4 cogs " + c, new Reading("w" + c + ";").answer, c >= 3 && c <= 99 ? 1 : -11);
            is.due("4 ink " + c, new Reading("p" + c + ";").answer, 1);
        }
    }

    /** What box() answers to a text on a new object. */
    private static final class Reading {
        private final int answer;

        Reading(String text) {
            PetalWheels x = new PetalWheels();
            Checks.type(x, text);
            answer = x.box();
        }
    }

    private static void promise04BoxFaults() {
        is.due("4 ends behind letters", fault("r"), -11);
        is.due("4 ends behind letters, blanks", fault("r  "), -13);
        is.due("4 ends behind a number", fault("p 12"), -14);
        is.due("4 ends in a later item", fault("p12; w"), -16);
        is.due("4 two letters", fault(" pp 1;"), -11);
        is.due("4 letters of no item", fault("p1;x1;"), -13);
        is.due("4 an item's letter and another", fault("p1;  ra 12;"), -15);
        is.due("4 z is a letter", fault("rz12;"), -10);
        is.due("4 a is a letter", fault("ra12;"), -10);
        is.due("4 a number first", fault(" 12;"), -11);
        is.due("4 ; first", fault("p1;;"), -13);
        is.due("4 letters for a number", fault("p p;"), -12);
        is.due("4 ; for a number", fault("p  ;"), -13);
        is.due("4 a number for ;", fault("p 1 2;"), -14);
        is.due("4 letters for ;", fault("p 1p1;"), -13);
        is.due("4 above 999", fault("p 1000;"), -12);
        is.due("4 far above 999", fault("p 99999999999999999999999999;"), -12);
        is.due("4 wraps to a small one", fault("p 4294967297;"), -12);
        is.due("4 0 ahead", fault("p 01;"), -12);
        is.due("4 00", fault("p 00;"), -12);
        is.due("4 a big letter", fault("p1;R12;"), -13);
        is.due("4 a tab", fault("p\t1;"), -11);
        is.due("4 a byte 0", fault("p1;" + (char) 0), -13);
        is.due("4 a sign", fault("p-1;"), -11);
        is.due("4 a byte for ;", fault("p1,"), -12);
        is.due("4 byte above z", fault("{1;"), -10);
        is.due("4 byte ahead of a", fault("`1;"), -10);
        is.due("4 byte above 9", fault("p:;"), -11);
        is.due("4 byte ahead of 0", fault("p/;"), -11);
        is.due("4 a fifth ring", fault("r12;r12;r12;r12; r12;"), -27);
        is.due("4 a seventh wheel", fault("w3;w3;w3;w3;w3;w3;w3;"), -28);
        is.due("4 a fifth pen", fault("p1;p1;p1;p1;p1;"), -22);
        is.due("4 the first of two", fault("p1000; r13;"), -11);
    }

    private static void promise04BoxReadsAnew() {
        PetalWheels x = Checks.told("r12;w4;p100;");
        x.draws(0, 0, 1, 0, 0);
        x.spins(7);
        x.sees(3, 1);
        x.keep(0);
        x.keep(1);
        x.mark(0, 0);
        Checks.type(x, "r12;w13");
        is.due("4 fault", x.box(), -17);
        is.due("4 fault: text", x.count(5), 7);
        is.due("4 fault: lies", x.now(0), 7);
        is.due("4 fault: curves", x.now(1), 1);
        is.due("4 fault: seen", x.count(3), 1);
        is.due("4 fault: undos", x.count(4), 2);
        is.due("4 fault: ink", x.pen(0, 0), 88);
        is.due("4 fault: wheel", x.wheel(0, 0, 0), 4);
        Checks.type(x, ";p5;");
        is.due("4 anew", x.box(), 3);
        is.due("4 anew: lies", x.now(0), 0);
        is.due("4 anew: curves", x.now(1), 0);
        is.due("4 anew: seen", x.count(3), 0);
        is.due("4 anew: undos", x.count(4), 0);
        is.due("4 anew: undo", x.undo(), STATE);
        is.due("4 anew: image 0", x.back(0), STATE);
        is.due("4 anew: image 1", x.back(1), STATE);
        is.due("4 anew: ink", x.pen(0, 0), 5);
        is.due("4 anew: wheel", x.wheel(0, 0, 0), 13);
        is.due("4 anew: the trace goes on", x.trace(), 1);
    }

    private static void promise05Ring() {
        PetalWheels x = Checks.told("r24;r120;");
        is.due("5 first", x.ring(0), 24);
        is.due("5 second", x.ring(1), 120);
        is.due("5 above", x.ring(2), BAD);
        is.due("5 below", x.ring(-1), BAD);
        is.due("5 low", x.ring(LOW), BAD);
        is.due("5 high", x.ring(HIGH), BAD);
    }

    private static void promise06Wheel() {
        PetalWheels x = Checks.told("r24;r60;w10;w24;w36;");
        is.due("6 cogs", x.wheel(0, 0, 0), 10);
        is.due("6 petals", x.wheel(0, 0, 1), 12);
        is.due("6 rounds", x.wheel(0, 0, 2), 5);
        is.due("6 long", x.wheel(0, 0, 3), 120);
        is.due("6 cogs, as many as teeth", x.wheel(0, 1, 0), 24);
        is.due("6 as many do not fit", x.wheel(0, 1, 1), NONE);
        is.due("6 rounds, no fit", x.wheel(0, 2, 2), NONE);
        is.due("6 long, no fit", x.wheel(0, 2, 3), NONE);
        is.due("6 petals in another ring", x.wheel(1, 2, 1), 5);
        is.due("6 rounds in another ring", x.wheel(1, 2, 2), 3);
        is.due("6 long in another ring", x.wheel(1, 2, 3), 180);
        is.due("6 ring", x.wheel(2, 0, 0), BAD);
        is.due("6 ring below", x.wheel(-1, 0, 0), BAD);
        is.due("6 wheel", x.wheel(0, 3, 0), BAD);
        is.due("6 wheel below", x.wheel(0, -1, 0), BAD);
        is.due("6 what", x.wheel(0, 0, 4), BAD);
        is.due("6 what below", x.wheel(0, 0, -1), BAD);
        is.due("6 what, no fit", x.wheel(0, 1, 4), BAD);
    }

    private static void promise07Pen() {
        PetalWheels x = Checks.told("r12;w3;w4;p100;p50;");
        x.draws(0, 0, 1, 0, 0);
        x.draws(0, 1, 1, 0, 1);
        x.draws(0, 1, 9, 0, 0);
        is.due("7 ink", x.pen(0, 0), 76);
        is.due("7 ink of another", x.pen(1, 0), 38);
        is.due("7 shown, one covered, in two lines", x.pen(0, 1), 6);
        is.due("7 shown of another", x.pen(1, 1), 3);
        is.due("7 pen", x.pen(2, 0), BAD);
        is.due("7 pen below", x.pen(-1, 1), BAD);
        is.due("7 what", x.pen(0, 2), BAD);
        is.due("7 what below", x.pen(0, -1), BAD);
    }

    private static void promise08Curve() {
        PetalWheels x = Checks.told("r12;r24;w3;w8;p100;p300;");
        x.spins(45);
        x.draws(1, 1, 7, 23, 1);
        x.draws(0, 0, 7, 5, 0);
        int[] wants = {1, 1, 7, 23, 1, 45};
        for (int what = 0; what < 6; what++) {
            is.due("8 what " + what, x.curve(0, what), wants[what]);
        }
        is.due("8 tips", x.curve(0, 6), 3);
        is.due("8 tips of the later", x.curve(1, 6), 4);
        x.draws(0, 0, 7, 2, 0);
        is.due("8 all tips covered", x.curve(1, 6), 0);
        is.due("8 tips of the latest", x.curve(2, 6), 4);
        is.due("8 curve", x.curve(3, 0), BAD);
        is.due("8 curve below", x.curve(-1, 0), BAD);
        is.due("8 what", x.curve(0, 7), BAD);
        is.due("8 what below", x.curve(0, -1), BAD);
    }

    private static void promise09Draws() {
        PetalWheels x = Checks.told("r12;r24;w3;w12;p24;p11;p999;");
        is.due("9 ring", x.draws(2, 0, 1, 0, 0), BAD);
        is.due("9 ring below", x.draws(-1, 0, 1, 0, 0), BAD);
        is.due("9 wheel", x.draws(0, 2, 1, 0, 0), BAD);
        is.due("9 wheel below", x.draws(0, -1, 1, 0, 0), BAD);
        is.due("9 hole 0", x.draws(0, 0, 0, 0, 0), BAD);
        is.due("9 hole 10", x.draws(0, 0, 10, 0, 0), BAD);
        is.due("9 start below", x.draws(0, 0, 1, -1, 0), BAD);
        is.due("9 start above", x.draws(0, 0, 1, 12, 0), BAD);
        is.due("9 pen", x.draws(0, 0, 1, 0, 3), BAD);
        is.due("9 pen below", x.draws(0, 0, 1, 0, -1), BAD);
        is.due("9 no fit", x.draws(0, 1, 1, 0, 0), STATE);
        is.due("9 bad ahead of state", x.draws(0, 1, 1, 12, 0), BAD);
        is.due("9 less ink", x.draws(0, 0, 1, 0, 1), STATE);
        is.due("9 nothing to undo", x.count(4), 0);
        is.due("9 first", x.draws(0, 0, 9, 11, 0), 0);
        is.due("9 the ink there is", x.draws(0, 0, 1, 0, 0), 1);
        is.due("9 no ink", x.pen(0, 0), 0);
        is.due("9 then none", x.draws(0, 0, 1, 0, 0), STATE);
        is.due("9 start of a larger ring", x.draws(1, 0, 1, 23, 2), 2);
        is.due("9 long less", x.pen(2, 0), 975);
        for (int k = 3; k < 12; k++) {
            is.due("9 more", x.draws(0, 0, 1, k, 2), k);
        }
        is.due("9 full", x.draws(0, 0, 1, 0, 2), FULL);
        is.due("9 state ahead of full", x.draws(0, 0, 1, 0, 0), STATE);
        is.due("9 bad ahead of full", x.draws(0, 0, 10, 0, 2), BAD);
        is.due("9 ink as before", x.pen(2, 0), 975 - 9 * 12);
        is.due("9 curves", x.now(1), 12);
    }

    private static void promise10Rubs() {
        PetalWheels x = Checks.told("r12;w3;p100;");
        is.due("10 none", x.rubs(0), BAD);
        for (int k = 0; k < 4; k++) {
            x.draws(0, 0, k + 1, k, 0);
        }
        is.due("10 below", x.rubs(-1), BAD);
        is.due("10 above", x.rubs(4), BAD);
        is.due("10 rubbed", x.rubs(1), 3);
        is.due("10 earlier", x.curve(0, 3), 0);
        is.due("10 later", x.curve(1, 3), 2);
        is.due("10 last", x.curve(2, 3), 3);
        is.due("10 gone", x.curve(3, 3), BAD);
        is.due("10 ink stays", x.pen(0, 0), 52);
        is.due("10 nothing shown", x.shown(30, 2), NONE);
        is.due("10 shown by a new number", x.shown(60, 3), 1);
        is.due("10 the last", x.rubs(2), 2);
        is.due("10 the first", x.rubs(0), 1);
        is.due("10 who is left", x.curve(0, 3), 2);
        is.due("10 none left", x.rubs(0), 0);
    }

    private static void promise11Spins() {
        PetalWheels x = Checks.told("r12;w4;p100;");
        is.due("11 0", x.spins(0), BAD);
        is.due("11 360", x.spins(360), BAD);
        is.due("11 below", x.spins(-1), BAD);
        is.due("11 low", x.spins(LOW), BAD);
        is.due("11 high", x.spins(HIGH), BAD);
        is.due("11 lies still", x.now(0), 0);
        is.due("11 359", x.spins(359), 359);
        is.due("11 once round", x.spins(1), 0);
        is.due("11 again", x.spins(100), 100);
        x.draws(0, 0, 1, 0, 0);
        x.spins(50);
        is.due("11 a curve stays where it was drawn", x.shown(100, 1), 0);
        is.due("11 and lay as it lay", x.curve(0, 5), 100);
    }

    private static void promise12Fills() {
        PetalWheels x = Checks.told("p0;p998;p999;");
        is.due("12 pen", x.fills(3, 1), BAD);
        is.due("12 pen below", x.fills(-1, 1), BAD);
        is.due("12 0", x.fills(0, 0), BAD);
        is.due("12 1000", x.fills(0, 1000), BAD);
        is.due("12 high", x.fills(0, HIGH), BAD);
        is.due("12 bad ahead of state", x.fills(2, 0), BAD);
        is.due("12 has 999", x.fills(2, 1), STATE);
        is.due("12 nothing to undo", x.count(4), 0);
        is.due("12 more", x.fills(0, 5), 5);
        is.due("12 more again", x.fills(0, 7), 12);
        is.due("12 at most", x.fills(0, 999), 999);
        is.due("12 then state", x.fills(0, 1), STATE);
        is.due("12 just", x.fills(1, 1), 999);
    }

    private static void promise13Undo() {
        PetalWheels x = Checks.told("r12;w3;w4;p100;");
        is.due("13 none", x.undo(), STATE);
        x.draws(0, 0, 1, 0, 0);
        x.draws(0, 1, 2, 1, 0);
        x.draws(0, 0, 3, 2, 0);
        x.rubs(1);
        x.spins(350);
        x.spins(20);
        x.fills(0, 999);
        is.due("13 filled", x.undo(), 6);
        is.due("13 ink", x.pen(0, 0), 64);
        is.due("13 turned", x.undo(), 5);
        is.due("13 lies", x.now(0), 350);
        is.due("13 turned again", x.undo(), 4);
        is.due("13 lies again", x.now(0), 0);
        is.due("13 rubbed", x.undo(), 3);
        is.due("13 curves", x.now(1), 3);
        is.due("13 back at its place", x.curve(1, 1), 1);
        is.due("13 the later too", x.curve(2, 2), 3);
        is.due("13 ink is as it was", x.pen(0, 0), 64);
        is.due("13 drawn", x.undo(), 2);
        is.due("13 ink is back", x.pen(0, 0), 76);
        is.due("13 curves less", x.now(1), 2);
        is.due("13 a new one instead", x.spins(1), 1);
        is.due("13 how many", x.count(4), 3);
        is.due("13 that is undone first", x.undo(), 2);
        x.undo();
        is.due("13 the last", x.undo(), 0);
        is.due("13 no more", x.undo(), STATE);
        is.due("13 as told", x.pen(0, 0), 100);
    }

    private static void promise13UndoForgets() {
        PetalWheels x = new PetalWheels();
        for (int n = 1; n <= 12; n++) {
            x.spins(1);
            is.due("13 known", x.count(4), Math.min(n, 10));
        }
        for (int n = 9; n >= 5; n--) {
            is.due("13 more may be", x.undo(), n);
        }
        is.due("13 lies half back", x.now(0), 7);
        for (int n = 1; n <= 3; n++) {
            x.spins(2);
        }
        for (int n = 7; n >= 0; n--) {
            is.due("13 more may be, again", x.undo(), n);
        }
        is.due("13 older are lost", x.undo(), STATE);
        is.due("13 lies as far back as is known", x.now(0), 2);
    }

    private static void promise14Now() {
        PetalWheels x = Checks.told("r12;w3;w4;p100;");
        x.draws(0, 0, 1, 0, 0);
        x.draws(0, 1, 1, 0, 0);
        x.draws(0, 0, 9, 0, 0);
        x.spins(11);
        is.due("14 lies", x.now(0), 11);
        is.due("14 curves", x.now(1), 3);
        is.due("14 points: one is shared, lines are apart", x.now(2), 10);
        is.due("14 like", x.now(3), 1);
        is.due("14 below", x.now(-1), BAD);
        is.due("14 above", x.now(4), BAD);
    }

    private static void promise14Like() {
        PetalWheels x = Checks.told("r12;r120;w3;w4;w6;w7;p999;p999;");
        x.draws(0, 0, 1, 0, 0);
        is.due("14 like: 4 petals", x.now(3), 4);
        x.draws(0, 2, 2, 1, 0);
        is.due("14 like: 2 petals in another line", x.now(3), 2);
        x.draws(0, 0, 2, 1, 0);
        is.due("14 like: covered by the same pen", x.now(3), 4);
        x.draws(0, 2, 1, 0, 1);
        is.due("14 like: two of four by another pen", x.now(3), 2);
        x.rubs(3);
        x.draws(0, 2, 1, 0, 0);
        is.due("14 like: two of four by the same pen", x.now(3), 4);
        PetalWheels u = Checks.told("r12;w3;p99;");
        u.draws(0, 0, 9, 0, 0);
        is.due("14 like: in the last line", u.now(3), 4);
        PetalWheels y = Checks.told("r120;r45;w7;w8;p999;p999;");
        y.draws(0, 0, 5, 0, 0);
        is.due("14 like: 120 petals", y.now(3), 120);
        y.draws(1, 1, 5, 0, 1);
        is.due("14 like: 45 of them by another pen", y.now(3), 15);
    }

    private static void promise15Shown() {
        PetalWheels x = Checks.told("r12;w3;w4;p100;");
        x.draws(0, 0, 1, 0, 0);
        x.draws(0, 1, 1, 0, 0);
        is.due("15 the later lies over", x.shown(0, 1), 1);
        is.due("15 the earlier", x.shown(90, 1), 0);
        is.due("15 none", x.shown(30, 1), NONE);
        is.due("15 another line", x.shown(0, 2), NONE);
        x.spins(355);
        x.draws(0, 0, 9, 1, 0);
        is.due("15 as it lies, left over by 360", x.shown(25, 9), 2);
        is.due("15 all round", x.shown(295, 9), 2);
        is.due("15 not where it would lie else", x.shown(30, 9), NONE);
        is.due("15 highest point", x.shown(359, 9), NONE);
        is.due("15 point above", x.shown(360, 1), BAD);
        is.due("15 point below", x.shown(-1, 1), BAD);
        is.due("15 line 0", x.shown(0, 0), BAD);
        is.due("15 line 10", x.shown(0, 10), BAD);
    }

    private static void promise16Petals() {
        PetalWheels x = Checks.told("r12;r120;w12;w9;w3;w7;");
        is.due("16 the lowest", x.petals(0, 4), 1);
        is.due("16 another", x.petals(0, 12), 3);
        is.due("16 none, as that wheel does not fit", x.petals(0, 1), NONE);
        is.due("16 most", x.petals(1, 120), 3);
        is.due("16 of another ring", x.petals(1, 40), 1);
        is.due("16 by the first", x.petals(1, 10), 0);
        is.due("16 none", x.petals(1, 119), NONE);
        is.due("16 0", x.petals(0, 0), BAD);
        is.due("16 121", x.petals(0, 121), BAD);
        is.due("16 ring", x.petals(2, 4), BAD);
        is.due("16 ring below", x.petals(-1, 4), BAD);
    }

    private static void promise17Closes() {
        PetalWheels x = Checks.told("r12;r24;w12;w4;w3;w9;p999;");
        is.due("17 all classes", x.closes(0, 1, 0), 3);
        is.due("17 the lowest of two", x.closes(0, 1, 1), 2);
        x.draws(0, 1, 1, 0, 0);
        x.draws(0, 1, 1, 1, 0);
        is.due("17 one class is left of another wheel", x.closes(0, 1, 0), 2);
        is.due("17 that wheel", x.closes(0, 1, 1), 1);
        is.due("17 another line", x.closes(0, 2, 1), 2);
        is.due("17 a ring of more teeth", x.closes(1, 1, 0), 3);
        is.due("17 its wheel", x.closes(1, 1, 1), 2);
        x.draws(0, 1, 1, 2, 0);
        x.draws(0, 1, 1, 3, 0);
        is.due("17 none is needed", x.closes(0, 1, 0), 0);
        is.due("17 by none", x.closes(0, 1, 1), NONE);
        is.due("17 another ring's tips count", x.closes(1, 1, 0), 2);
        is.due("17 by them another wheel is best", x.closes(1, 1, 1), 1);
        x.spins(30);
        is.due("17 turned by a tooth", x.closes(0, 1, 0), 0);
        x.spins(1);
        is.due("17 turned by less", x.closes(0, 1, 0), 3);
        is.due("17 ring", x.closes(2, 1, 0), BAD);
        is.due("17 ring below", x.closes(-1, 1, 0), BAD);
        is.due("17 line 0", x.closes(0, 0, 0), BAD);
        is.due("17 line 10", x.closes(0, 10, 0), BAD);
        is.due("17 what", x.closes(0, 1, 2), BAD);
        is.due("17 what below", x.closes(0, 1, -1), BAD);
        closesByTheFirst();
        closesOneTooth();
        PetalWheels y = Checks.told("r12;w12;w99;p0;");
        is.due("17 none fits", y.closes(0, 1, 0), NONE);
        is.due("17 no wheel", y.closes(0, 1, 1), NONE);
        PetalWheels z = Checks.told("r12;r24;w12;w13;p999;");
        z.draws(1, 1, 4, 0, 0);
        is.due("17 none fits, none is needed", z.closes(0, 4, 0), 0);
        is.due("17 none needed, no wheel", z.closes(0, 4, 1), NONE);
        is.due("17 one by another ring, without ink or room", z.closes(1, 5, 0), 1);
    }

    private static void closesByTheFirst() {
        PetalWheels x = Checks.told("r12;w3;w9;w4;p999;");
        is.due("17 the first wheel, as good as the second", x.closes(0, 1, 1), 0);
        x.spins(30);
        x.draws(0, 2, 1, 0, 0);
        x.draws(0, 2, 1, 1, 0);
        x.draws(0, 2, 1, 2, 0);
        x.spins(5);
        x.draws(0, 0, 1, 0, 0);
        x.draws(0, 0, 1, 1, 0);
        is.due("17 turned: one class is left by the first", x.closes(0, 1, 0), 1);
        is.due("17 turned: by the first", x.closes(0, 1, 1), 0);
    }

    /** A tip at each tooth but one, which is tooth 6 at first, and tooth 0 when the paper has been turned half round. */
    private static void closesOneTooth() {
        PetalWheels x = Checks.told("r12;r24;w6;w8;w11;p999;");
        for (int start = 1; start < 6; start++) {
            x.draws(0, 0, 1, start, 0);
        }
        is.due("17 the class of tooth 0 is left", x.closes(0, 1, 0), 1);
        x.draws(1, 1, 1, 0, 0);
        is.due("17 tooth 6 is left", x.closes(0, 1, 0), 1);
        x.spins(180);
        is.due("17 it is tooth 0 now", x.closes(0, 1, 0), 1);
        is.due("17 by the lowest", x.closes(0, 1, 1), 0);
    }

    private static void promise18Best() {
        PetalWheels x = Checks.told("r12;w3;w4;w5;w12;p11;p24;p71;p83;");
        int[] most = {0, 7, 12, 16};
        int[] length = {0, 24, 60, 72};
        for (int p = 0; p < 4; p++) {
            is.due("18 most petals by pen " + p, x.best(p, 0), most[p]);
            is.due("18 how long by pen " + p, x.best(p, 1), length[p]);
        }
        x.fills(2, 13);
        is.due("18 by the ink there is now: all", x.best(2, 0), 19);
        is.due("18 all of them", x.best(2, 1), 84);
        x.draws(0, 0, 1, 0, 2);
        is.due("18 by less ink", x.best(2, 0), 16);
        is.due("18 nothing is drawn by it", x.now(1), 1);
        PetalWheels y = Checks.told("r12;r12;w3;p48;p0;");
        is.due("18 rings alike, each at most once", y.best(0, 0), 8);
        is.due("18 how long", y.best(0, 1), 24);
        is.due("18 no ink", y.best(1, 0), 0);
        is.due("18 no ink, how long", y.best(1, 1), 0);
        is.due("18 pen", y.best(2, 0), BAD);
        is.due("18 pen below", y.best(-1, 0), BAD);
        is.due("18 what", y.best(0, 2), BAD);
        is.due("18 what below", y.best(0, -1), BAD);
        PetalWheels z = Checks.told("p999;");
        is.due("18 no twos", z.best(0, 0), 0);
        is.due("18 no twos, how long", z.best(0, 1), 0);
    }

    private static void promise19Meet() {
        PetalWheels x = Checks.told("r12;w3;w4;w5;p999;");
        x.draws(0, 0, 1, 0, 0);
        x.draws(0, 1, 1, 1, 0);
        x.draws(0, 0, 1, 0, 0);
        x.draws(0, 0, 2, 0, 0);
        x.draws(0, 2, 1, 7, 0);
        x.draws(0, 0, 1, 1, 0);
        is.due("19 one", x.meet(0, 1), 1);
        is.due("19 the other way", x.meet(1, 0), 1);
        is.due("19 all, though covered", x.meet(0, 2), 4);
        is.due("19 another line", x.meet(0, 3), 0);
        is.due("19 all of the fewer", x.meet(4, 1), 3);
        is.due("19 none", x.meet(0, 5), 0);
        is.due("19 alike", x.meet(2, 2), BAD);
        is.due("19 above", x.meet(0, 6), BAD);
        is.due("19 above first", x.meet(6, 0), BAD);
        is.due("19 below", x.meet(0, -1), BAD);
        is.due("19 below first", x.meet(-1, 0), BAD);
        x.spins(30);
        x.draws(0, 0, 1, 0, 0);
        is.due("19 as it lay", x.meet(0, 6), 0);
        is.due("19 the same points by another start", x.meet(5, 6), 4);
    }

    private static void promise20Odds() {
        PetalWheels x = Checks.told("r24;w18;w24;w5;");
        is.due("20 upper", x.odds(0, 0, 0, 0), 1);
        is.due("20 lower", x.odds(0, 0, 0, 1), 6);
        is.due("20 sure", x.odds(0, 2, 15, 0), 1);
        is.due("20 sure, lower", x.odds(0, 2, 15, 1), 1);
        is.due("20 no tooth there", x.odds(0, 0, 1, 0), 0);
        is.due("20 no tooth there, lower", x.odds(0, 0, 1, 1), 1);
        is.due("20 the last point", x.odds(0, 0, 359, 0), 0);
        x.spins(14);
        is.due("20 as it lies", x.odds(0, 0, 359, 0), 1);
        is.due("20 as it lies, lower", x.odds(0, 0, 359, 1), 6);
        is.due("20 no more", x.odds(0, 0, 0, 0), 0);
        is.due("20 no fit", x.odds(0, 1, 0, 0), STATE);
        is.due("20 bad ahead of state", x.odds(0, 1, 360, 0), BAD);
        is.due("20 point below", x.odds(0, 0, -1, 0), BAD);
        is.due("20 point above", x.odds(0, 0, 360, 1), BAD);
        is.due("20 what", x.odds(0, 0, 0, 2), BAD);
        is.due("20 what below", x.odds(0, 0, 0, -1), BAD);
        is.due("20 ring", x.odds(1, 0, 0, 0), BAD);
        is.due("20 ring below", x.odds(-1, 0, 0, 0), BAD);
        is.due("20 wheel", x.odds(0, 3, 0, 0), BAD);
        is.due("20 wheel below", x.odds(0, -1, 0, 0), BAD);
    }

    private static void promise21Sees() {
        PetalWheels x = new PetalWheels();
        is.due("21 tooth below", x.sees(-1, 0), BAD);
        is.due("21 tooth above", x.sees(120, 0), BAD);
        is.due("21 tip below", x.sees(0, -1), BAD);
        is.due("21 tip above", x.sees(0, 2), BAD);
        is.due("21 first", x.sees(0, 0), 1);
        is.due("21 last tooth", x.sees(119, 1), 2);
        is.due("21 the same again", x.sees(119, 1), 3);
        is.due("21 the contrary", x.sees(119, 0), 4);
        x.sees(1, 1);
        is.due("21 sixth", x.sees(2, 1), 6);
        is.due("21 full", x.sees(3, 1), FULL);
        is.due("21 bad ahead of full", x.sees(120, 1), BAD);
        is.due("21 how many", x.count(3), 6);
        is.due("21 nothing to undo", x.count(4), 0);
    }

    private static void promise22Forget() {
        PetalWheels x = Checks.told("r12;w3;");
        is.due("22 nothing", x.forget(), 0);
        x.sees(0, 1);
        x.sees(1, 1);
        is.due("22 no guess", x.guess(0, 0), 0);
        is.due("22 two", x.forget(), 2);
        is.due("22 then none", x.forget(), 0);
        is.due("22 all may be", x.guess(0, 0), 12);
        is.due("22 seen anew", x.sees(0, 1), 1);
        is.due("22 guess anew", x.guess(0, 0), 4);
    }

    private static void promise23Guess() {
        PetalWheels x = Checks.told("r12;r24;w12;w3;w4;w5;");
        is.due("23 all that fit", x.guess(0, 0), 36);
        is.due("23 first of all", x.guess(0, 1), 1000);
        is.due("23 first of the other ring", x.guess(1, 1), 0);
        x.sees(2, 1);
        is.due("23 a tip: 4 and 3 and 12 starts", x.guess(0, 0), 19);
        is.due("23 first start", x.guess(0, 1), 1002);
        x.sees(3, 0);
        is.due("23 not there: not by the last wheel", x.guess(0, 0), 7);
        x.sees(5, 0);
        is.due("23 not by the other", x.guess(0, 0), 3);
        is.due("23 the wheel", x.guess(0, 1), 2002);
        is.due("23 in a larger ring: by two wheels", x.guess(1, 0), 8);
        x.sees(22, 0);
        is.due("23 no such tooth, no tip", x.guess(0, 0), 3);
        is.due("23 there is one in a larger ring", x.guess(1, 0), 2);
        x.sees(22, 1);
        is.due("23 both can't be", x.guess(1, 0), 0);
        is.due("23 none", x.guess(1, 1), NONE);
        x.forget();
        x.sees(12, 1);
        is.due("23 no such tooth, a tip", x.guess(0, 0), 0);
        is.due("23 none there", x.guess(0, 1), NONE);
        is.due("23 ring", x.guess(2, 0), BAD);
        is.due("23 ring below", x.guess(-1, 0), BAD);
        is.due("23 what", x.guess(0, 2), BAD);
        is.due("23 what below", x.guess(0, -1), BAD);
    }

    private static void promise24Look() {
        PetalWheels x = Checks.told("r12;r15;w4;w3;w14;");
        is.due("24 the lowest of all alike", x.look(0), 0);
        x.sees(0, 1);
        is.due("24 4 starts by one, 3 by the other: where they part best", x.look(0), 3);
        x.sees(3, 0);
        is.due("24 3 starts that are alike", x.guess(0, 0), 3);
        is.due("24 none parts them", x.look(0), NONE);
        x.sees(4, 0);
        is.due("24 none at all", x.guess(0, 0), 0);
        is.due("24 fewer than 2", x.look(0), NONE);
        is.due("24 ring", x.look(2), BAD);
        is.due("24 ring below", x.look(-1), BAD);
        PetalWheels y = Checks.told("r12;w12;");
        is.due("24 no wheel fits", y.look(0), NONE);
        PetalWheels z = Checks.told("r12;w6;");
        z.sees(0, 0);
        is.due("24 10 starts, two by two", z.look(0), 1);
    }

    private static void promise25Mark() {
        PetalWheels x = Checks.told("r24;w18;w10;p999;");
        x.draws(0, 0, 7, 11, 0);
        x.draws(0, 1, 9, 23, 0);
        int[] first = {4, 4 + 7, 4 - 3, 2 * (4 + 7), 4 - 3 + 0, 4 + 11};
        int[] second = {12, 12 + 9, 12 - 5, 2 * (12 + 9), 12 - 5 + 1, 12 + 23};
        for (int kind = 0; kind <= 5; kind++) {
            is.due("25 kind " + kind, x.mark(kind, 0), first[kind]);
            is.due("25 kind " + kind + " of the second", x.mark(kind, 1), second[kind]);
        }
        is.due("25 kind below", x.mark(-1, 0), NO);
        is.due("25 kind above", x.mark(6, 0), NO);
        is.due("25 curve below", x.mark(0, -1), NO);
        is.due("25 curve above", x.mark(0, 2), NO);
        x.rubs(0);
        is.due("25 its number is one less", x.mark(4, 0), 12 - 5 + 0);
    }

    private static void promise26Keep() {
        PetalWheels x = Checks.told("r12;w3;p100;");
        is.due("26 below", x.keep(-1), BAD);
        is.due("26 above", x.keep(2), BAD);
        is.due("26 no curves", x.keep(0), 0);
        x.draws(0, 0, 1, 0, 0);
        is.due("26 one", x.keep(1), 1);
        is.due("26 over another", x.keep(0), 1);
        is.due("26 nothing to undo more", x.count(4), 1);
        x.draws(0, 0, 1, 1, 0);
        is.due("26 the later is kept", x.back(0), 1);
    }

    private static void promise27Back() {
        PetalWheels x = Checks.told("r12;w3;p100;");
        is.due("27 none kept", x.back(0), STATE);
        x.draws(0, 0, 1, 0, 0);
        x.spins(10);
        x.draws(0, 0, 2, 5, 0);
        x.keep(1);
        is.due("27 the other was not", x.back(0), STATE);
        x.undo();
        x.undo();
        x.fills(0, 500);
        x.rubs(0);
        x.sees(1, 1);
        x.type('p');
        is.due("27 curves", x.back(1), 2);
        is.due("27 lies", x.now(0), 10);
        is.due("27 ink", x.pen(0, 0), 76);
        is.due("27 a curve", x.curve(1, 3), 5);
        is.due("27 seen is not kept", x.count(3), 1);
        is.due("27 the text is not", x.count(5), 1);
        is.due("27 may be undone", x.count(4), 3);
        is.due("27 undone", x.undo(), 2);
        is.due("27 what that was", x.now(1), 1);
        is.due("27 undone once more", x.undo(), 1);
        is.due("27 lies as ahead", x.now(0), 0);
        x.spins(200);
        is.due("27 kept still", x.back(1), 2);
        is.due("27 lies as kept", x.now(0), 10);
        for (int n = 0; n < 20; n++) {
            x.spins(1);
        }
        x.back(1);
        is.due("27 undone as kept", x.undo(), 2);
        is.due("27 below", x.back(-1), BAD);
        is.due("27 above", x.back(2), BAD);
    }

    private static void promise28Count() {
        PetalWheels x = Checks.told("r12;r24;w3;w4;w5;p1;p2;p3;p4;");
        x.sees(0, 1);
        x.spins(1);
        x.spins(1);
        x.type('r');
        x.type('r');
        x.type('r');
        int[] wants = {2, 3, 4, 1, 2, 3};
        for (int what = 0; what <= 5; what++) {
            is.due("28 what " + what, x.count(what), wants[what]);
        }
        is.due("28 below", x.count(-1), BAD);
        is.due("28 above", x.count(6), BAD);
    }

    private static void promise29Trace() {
        PetalWheels x = Checks.told("r24;w18;p999;");
        x.draws(0, 0, 7, 11, 0);
        long due = 0;
        long[] asks = {1, 11, 101, 1011, 10101, 100001};
        for (int kind = 0; kind <= 5; kind++) {
            x.mark(kind, 0);
            due += asks[kind];
            is.due("29 kind " + kind, x.trace(), due);
        }
        x.mark(6, 0);
        x.mark(3, 1);
        is.due("29 refused", x.trace(), due);
        x.keep(0);
        x.mark(5, 0);
        x.back(0);
        x.undo();
        is.due("29 not kept, not undone", x.trace(), due + 100001);
    }
}
