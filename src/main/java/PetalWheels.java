import java.util.Arrays;

/** Drawing wheels: toothed wheels that roll inside toothed rings, and the curves that they leave on the paper. */
public final class PetalWheels {
    public static final int BAD = -1, STATE = -2, FULL = -3, NONE = -9;
    public static final int NO = -1000000;

    private static final int POINTS = 360;
    private static final int LINES = 9;
    private static final int MOST_RINGS = 4;
    private static final int MOST_WHEELS = 6;
    private static final int MOST_PENS = 4;
    private static final int LEAST_TEETH = 12;
    private static final int MOST_TEETH = 120;
    private static final int LEAST_COGS = 3;
    private static final int MOST_COGS = 99;
    private static final int MOST_INK = 999;
    private static final int MOST_CURVES = 12;
    private static final int MOST_UNDOS = 10;
    private static final int MOST_SEEN = 6;
    private static final int MOST_BYTES = 100;
    private static final int IMAGES = 2;
    private static final int FAULT_BASE = -10;
    private static final int NO_FAULT = -1;
    private static final int WHEEL_IN_GUESS = 1000;

    private final Text text = new Text();
    private final Sights sights = new Sights();
    private Box told = new Box();
    private Paper paper = new Paper(0, new int[0], new Curve[0]);
    private final Past past = new Past();
    private final Image[] images = new Image[IMAGES];
    private long traced = 0L;

    // These rows are made once and used again by every call, so that no question costs room.
    private final int[] pointRow = new int[POINTS];
    private final int[] toothRow = new int[MOST_TEETH];
    private final int[] inkRow = new int[MOST_INK + 1];
    private boolean inkRowNoted = false;

    public PetalWheels() {
    }

    // ---- the box

    public int type(int c) {
        if (!within(c, 0, 255)) {
            return BAD;
        }
        return text.adds(c) ? text.length : FULL;
    }

    public int clear() {
        return text.empties();
    }

    public int box() {
        Box next = new Box();
        int fault = text.faultIn(next);
        if (fault != NO_FAULT) {
            return FAULT_BASE - fault;
        }
        text.empties();
        startAnew(next);
        return next.items();
    }

    public int ring(int r) {
        return told.hasRing(r) ? told.teethOf(r) : BAD;
    }

    public int wheel(int r, int w, int what) {
        if (!told.hasRing(r) || !told.hasWheel(w) || !within(what, 0, 3)) {
            return BAD;
        }
        if (what == 0) {
            return told.cogsOf(w);
        }
        if (!told.fits(r, w)) {
            return NONE;
        }
        switch (what) {
            case 1:
                return told.petalsOf(r, w);
            case 2:
                return told.roundsOf(r, w);
            default:
                return told.longOf(r, w);
        }
    }

    public int pen(int p, int what) {
        if (!told.hasPen(p) || !within(what, 0, 1)) {
            return BAD;
        }
        return what == 0 ? paper.inkOf(p) : pointsOfPen(p);
    }

    public int curve(int k, int what) {
        Curve c = paper.curveAt(k);
        if (c == null) {
            return BAD;
        }
        switch (what) {
            case 0:
                return c.ring;
            case 1:
                return c.wheel;
            case 2:
                return c.hole;
            case 3:
                return c.start;
            case 4:
                return c.pen;
            case 5:
                return c.lay;
            case 6:
                return tipsShown(k, c.hole);
            default:
                return BAD;
        }
    }

    // ---- what is done

    public int draws(int r, int w, int hole, int start, int p) {
        if (!told.hasRing(r) || !told.hasWheel(w) || !told.hasPen(p)) {
            return BAD;
        }
        if (!within(hole, 1, LINES) || !within(start, 0, told.teethOf(r) - 1)) {
            return BAD;
        }
        if (!told.fits(r, w) || paper.inkOf(p) < told.longOf(r, w)) {
            return STATE;
        }
        int number = paper.curves.length;
        if (number >= MOST_CURVES) {
            return FULL;
        }
        Curve c = new Curve(told, r, w, hole, start, p, paper.lies);
        changeTo(paper.drawn(c, told.longOf(r, w)));
        return number;
    }

    public int rubs(int k) {
        if (paper.curveAt(k) == null) {
            return BAD;
        }
        changeTo(paper.rubbed(k));
        return paper.curves.length;
    }

    public int spins(int n) {
        if (!within(n, 1, POINTS - 1)) {
            return BAD;
        }
        changeTo(paper.turned(n));
        return paper.lies;
    }

    public int fills(int p, int n) {
        if (!told.hasPen(p) || !within(n, 1, MOST_INK)) {
            return BAD;
        }
        if (paper.inkOf(p) >= MOST_INK) {
            return STATE;
        }
        changeTo(paper.filled(p, n));
        return paper.inkOf(p);
    }

    public int undo() {
        Paper before = past.takesLatest();
        if (before == null) {
            return STATE;
        }
        paper = before;
        return past.known;
    }

    public int now(int what) {
        switch (what) {
            case 0:
                return paper.lies;
            case 1:
                return paper.curves.length;
            case 2:
                return pointsShown();
            case 3:
                return like();
            default:
                return BAD;
        }
    }

    // ---- what shows, what is best

    public int shown(int point, int line) {
        if (!within(point, 0, POINTS - 1) || !within(line, 1, LINES)) {
            return BAD;
        }
        for (int k = paper.curves.length - 1; k >= 0; k--) {
            Curve c = paper.curveAt(k);
            if (c != null && c.hasTip(point, line)) {
                return k;
            }
        }
        return NONE;
    }

    public int petals(int r, int n) {
        if (!told.hasRing(r) || !within(n, 1, MOST_TEETH)) {
            return BAD;
        }
        for (int w = 0; w < told.wheels; w++) {
            if (told.fits(r, w) && told.petalsOf(r, w) == n) {
                return w;
            }
        }
        return NONE;
    }

    public int closes(int r, int line, int what) {
        if (!told.hasRing(r) || !within(line, 1, LINES) || !within(what, 0, 1)) {
            return BAD;
        }
        if (noteBareTeeth(r, line) == 0) {
            return what == 0 ? 0 : NONE;
        }
        int fewest = NONE;
        int by = NONE;
        for (int w = 0; w < told.wheels; w++) {
            if (told.fits(r, w)) {
                int needed = curvesNeeded(told.teethOf(r), told.divisorOf(r, w));
                if (by == NONE || needed < fewest) {
                    fewest = needed;
                    by = w;
                }
            }
        }
        return what == 0 ? fewest : by;
    }

    public int best(int p, int what) {
        if (!told.hasPen(p) || !within(what, 0, 1)) {
            return BAD;
        }
        if (!inkRowNoted) {
            noteMostPetals();
        }
        int ink = Math.min(Math.max(paper.inkOf(p), 0), MOST_INK);
        int most = inkRow[ink];
        if (what == 0) {
            return most;
        }
        int least = 0;
        while (least < ink && inkRow[least] < most) {
            least++;
        }
        return least;
    }

    public int meet(int k, int l) {
        Curve one = paper.curveAt(k);
        Curve other = paper.curveAt(l);
        if (one == null || other == null || k == l) {
            return BAD;
        }
        int points = 0;
        for (int petal = 0; petal < one.petals; petal++) {
            if (other.hasTip(one.pointOf(petal), one.hole)) {
                points++;
            }
        }
        return points;
    }

    public int odds(int r, int w, int point, int what) {
        if (!told.hasRing(r) || !told.hasWheel(w)) {
            return BAD;
        }
        if (!within(point, 0, POINTS - 1) || !within(what, 0, 1)) {
            return BAD;
        }
        if (!told.fits(r, w)) {
            return STATE;
        }
        boolean atTooth = rest(point - paper.lies, told.stepOf(r)) == 0;
        if (what == 0) {
            return atTooth ? 1 : 0;
        }
        // One START in so many as the greatest common divisor gives a TIP at a given TOOTH.
        return atTooth ? told.divisorOf(r, w) : 1;
    }

    // ---- which it was

    public int sees(int tooth, int tip) {
        if (!within(tooth, 0, MOST_TEETH - 1) || !within(tip, 0, 1)) {
            return BAD;
        }
        return sights.adds(tooth, tip == 1) ? sights.seen : FULL;
    }

    public int forget() {
        return sights.empties();
    }

    public int guess(int r, int what) {
        if (!told.hasRing(r) || !within(what, 0, 1)) {
            return BAD;
        }
        return what == 0 ? guesses(r) : firstGuess(r);
    }

    public int look(int r) {
        if (!told.hasRing(r)) {
            return BAD;
        }
        int all = guesses(r);
        noteGuessesByTooth(r);
        int least = all;
        int tooth = NONE;
        for (int t = 0; t < told.teethOf(r) && t < toothRow.length; t++) {
            int greater = Math.max(toothRow[t], all - toothRow[t]);
            if (greater < least) {
                least = greater;
                tooth = t;
            }
        }
        return tooth;
    }

    // ---- kinds, images

    public int mark(int kind, int k) {
        Curve c = paper.curveAt(k);
        if (c == null) {
            return NO;
        }
        switch (kind) {
            case 0:
                return markOfCurve(c);
            case 1:
                return markOfRose(c);
            case 2:
                return markOfWeb(c);
            case 3:
                return markOfBouquet(c);
            case 4:
                return markOfLace(c, k);
            case 5:
                return markOfStar(c);
            default:
                return NO;
        }
    }

    public int keep(int image) {
        if (!within(image, 0, IMAGES - 1)) {
            return BAD;
        }
        images[image] = new Image(paper, past);
        return paper.curves.length;
    }

    public int back(int image) {
        if (!within(image, 0, IMAGES - 1)) {
            return BAD;
        }
        Image kept = images[image];
        if (kept == null) {
            return STATE;
        }
        paper = kept.paper;
        past.becomes(kept.past);
        return paper.curves.length;
    }

    public int count(int what) {
        switch (what) {
            case 0:
                return told.rings;
            case 1:
                return told.wheels;
            case 2:
                return told.pens;
            case 3:
                return sights.seen;
            case 4:
                return past.known;
            case 5:
                return text.length;
            default:
                return BAD;
        }
    }

    public long trace() {
        return traced;
    }

    // ---- numbers

    private static boolean within(int n, int least, int most) {
        return n >= least && n <= most;
    }

    private static int part(int n, int by) {
        return by == 0 ? 0 : n / by;
    }

    /** What is left over, never below 0. */
    private static int rest(int n, int by) {
        return by <= 0 ? 0 : Math.floorMod(n, by);
    }

    /** The counter only bounds the loop: numbers as small as these need a dozen rounds at most. */
    private static int greatestDivisor(int a, int b) {
        int x = a;
        int y = b;
        for (int round = 0; round < 64 && y != 0; round++) {
            int left = x % y;
            x = y;
            y = left;
        }
        return x;
    }

    // ---- changes

    /** THE TRACE goes on: it is not among what reading anew takes away. */
    private void startAnew(Box next) {
        told = next;
        paper = new Paper(0, next.inkTold(), new Curve[0]);
        past.empties();
        inkRowNoted = false;
        sights.empties();
        for (int i = 0; i < IMAGES; i++) {
            images[i] = null;
        }
    }

    private void changeTo(Paper next) {
        past.adds(paper);
        paper = next;
    }

    // ---- what shows

    /** Notes in pointRow which CURVE is SHOWN at each POINT of a LINE. */
    private void noteShown(int line) {
        Arrays.fill(pointRow, NONE);
        for (int k = 0; k < paper.curves.length; k++) {
            Curve c = paper.curveAt(k);
            if (c != null && c.hole == line) {
                for (int petal = 0; petal < c.petals; petal++) {
                    pointRow[c.pointOf(petal)] = k;
                }
            }
        }
    }

    /** Notes in pointRow which PEN is SHOWN at each POINT of a LINE. */
    private void notePens(int line) {
        noteShown(line);
        for (int point = 0; point < POINTS; point++) {
            Curve c = paper.curveAt(pointRow[point]);
            pointRow[point] = c == null ? NONE : c.pen;
        }
    }

    private int pointsNoted(int as) {
        int points = 0;
        for (int point = 0; point < POINTS; point++) {
            if (pointRow[point] == as) {
                points++;
            }
        }
        return points;
    }

    private int tipsShown(int k, int line) {
        noteShown(line);
        return pointsNoted(k);
    }

    private int pointsOfPen(int p) {
        int points = 0;
        for (int line = 1; line <= LINES; line++) {
            if (paper.hasCurveIn(line)) {
                notePens(line);
                points += pointsNoted(p);
            }
        }
        return points;
    }

    private int pointsShown() {
        int points = 0;
        for (int line = 1; line <= LINES; line++) {
            if (paper.hasCurveIn(line)) {
                noteShown(line);
                points += POINTS - pointsNoted(NONE);
            }
        }
        return points;
    }

    /** The turns that leave a LINE the same are those by 360 by the divisors of one number: LINES share its divisors. */
    private int like() {
        int parts = POINTS;
        for (int line = 1; line <= LINES; line++) {
            if (paper.hasCurveIn(line)) {
                notePens(line);
                parts = greatestDivisor(parts, likeOfRow());
            }
        }
        return parts;
    }

    private int likeOfRow() {
        for (int parts = POINTS; parts > 1; parts--) {
            if (POINTS % parts == 0 && isSameTurned(POINTS / parts)) {
                return parts;
            }
        }
        return 1;
    }

    private boolean isSameTurned(int n) {
        for (int point = 0; point < POINTS; point++) {
            if (pointRow[point] != pointRow[rest(point + n, POINTS)]) {
                return false;
            }
        }
        return true;
    }

    // ---- what is best

    /** Notes 1 in toothRow for each TOOTH without a TIP in that LINE, as THE PAPER LIES: how many. */
    private int noteBareTeeth(int r, int line) {
        noteShown(line);
        int step = told.stepOf(r);
        int bare = 0;
        for (int t = 0; t < told.teethOf(r) && t < toothRow.length; t++) {
            int point = rest(step * t + paper.lies, POINTS);
            toothRow[t] = pointRow[point] == NONE ? 1 : 0;
            bare += toothRow[t];
        }
        return bare;
    }

    /** A CURVE has TIPS at just those TEETH that leave the same over by the divisor: each such class is drawn or not. */
    private int curvesNeeded(int teeth, int divisor) {
        int needed = 0;
        for (int first = 0; first < divisor; first++) {
            if (isClassBare(first, teeth, divisor)) {
                needed++;
            }
        }
        return needed;
    }

    private boolean isClassBare(int first, int teeth, int divisor) {
        int step = Math.max(divisor, 1);
        for (int t = first; t < teeth && t < toothRow.length; t += step) {
            if (toothRow[t] == 1) {
                return true;
            }
        }
        return false;
    }

    /** Notes in inkRow, for each INK, the most PETALS by it. That holds for all PENS, until the text is read anew. */
    private void noteMostPetals() {
        Arrays.fill(inkRow, 0);
        for (int r = 0; r < told.rings; r++) {
            for (int w = 0; w < told.wheels; w++) {
                if (told.fits(r, w)) {
                    addTwo(told.longOf(r, w), told.petalsOf(r, w));
                }
            }
        }
        inkRowNoted = true;
    }

    /** Goes down, so that no two is taken twice. */
    private void addTwo(int length, int petals) {
        int least = Math.max(length, 0);
        for (int ink = MOST_INK; ink >= least; ink--) {
            inkRow[ink] = Math.max(inkRow[ink], inkRow[ink - least] + petals);
        }
    }

    // ---- which it was

    /** STARTS that leave the same over by the divisor have the same TIPS: PETALS many of each. */
    private int guesses(int r) {
        int teeth = told.teethOf(r);
        int all = 0;
        for (int w = 0; w < told.wheels; w++) {
            if (told.fits(r, w)) {
                int divisor = told.divisorOf(r, w);
                all += told.petalsOf(r, w) * sights.startsAgreeing(teeth, divisor);
            }
        }
        return all;
    }

    private int firstGuess(int r) {
        int teeth = told.teethOf(r);
        for (int w = 0; w < told.wheels; w++) {
            if (told.fits(r, w)) {
                int start = sights.firstAgreeing(teeth, told.divisorOf(r, w));
                if (start != NONE) {
                    return WHEEL_IN_GUESS * w + start;
                }
            }
        }
        return NONE;
    }

    /** Notes in toothRow by how many of the guesses there is a TIP at each TOOTH. */
    private void noteGuessesByTooth(int r) {
        Arrays.fill(toothRow, 0);
        for (int w = 0; w < told.wheels; w++) {
            if (told.fits(r, w)) {
                addGuesses(told.teethOf(r), told.divisorOf(r, w), told.petalsOf(r, w));
            }
        }
    }

    private void addGuesses(int teeth, int divisor, int petals) {
        int step = Math.max(divisor, 1);
        for (int start = 0; start < divisor; start++) {
            if (sights.agree(teeth, divisor, start)) {
                for (int t = start; t < teeth && t < toothRow.length; t += step) {
                    toothRow[t] += petals;
                }
            }
        }
    }

    // ---- kinds

    private int markOfCurve(Curve c) {
        traced += 1;
        return c.petals;
    }

    private int markOfRose(Curve c) {
        traced += 10;
        return markOfCurve(c) + c.hole;
    }

    private int markOfWeb(Curve c) {
        traced += 100;
        return markOfCurve(c) - c.rounds;
    }

    private int markOfBouquet(Curve c) {
        traced += 1000;
        return markOfRose(c) * 2;
    }

    private int markOfLace(Curve c, int number) {
        traced += 10000;
        return markOfWeb(c) + number;
    }

    private int markOfStar(Curve c) {
        traced += 100000;
        return markOfCurve(c) + c.start;
    }

    /** RINGS, WHEELS and PENS as a text tells them. */
    private static final class Box {
        private final int[] teeth = new int[MOST_RINGS];
        private final int[] cogs = new int[MOST_WHEELS];
        private final int[] ink = new int[MOST_PENS];
        private int rings = 0;
        private int wheels = 0;
        private int pens = 0;

        boolean hasRoomFor(int letter) {
            switch (letter) {
                case 'r':
                    return rings < MOST_RINGS;
                case 'w':
                    return wheels < MOST_WHEELS;
                case 'p':
                    return pens < MOST_PENS;
                default:
                    return false;
            }
        }

        boolean adds(int letter, int n) {
            switch (letter) {
                case 'r':
                    return addsRing(n);
                case 'w':
                    return addsWheel(n);
                case 'p':
                    return addsPen(n);
                default:
                    return false;
            }
        }

        private boolean addsRing(int n) {
            if (rings >= MOST_RINGS || !within(n, LEAST_TEETH, MOST_TEETH) || rest(POINTS, n) != 0) {
                return false;
            }
            teeth[rings] = n;
            rings++;
            return true;
        }

        private boolean addsWheel(int n) {
            if (wheels >= MOST_WHEELS || !within(n, LEAST_COGS, MOST_COGS)) {
                return false;
            }
            cogs[wheels] = n;
            wheels++;
            return true;
        }

        private boolean addsPen(int n) {
            if (pens >= MOST_PENS || !within(n, 0, MOST_INK)) {
                return false;
            }
            ink[pens] = n;
            pens++;
            return true;
        }

        int items() {
            return rings + wheels + pens;
        }

        boolean hasRing(int r) {
            return r >= 0 && r < rings;
        }

        boolean hasWheel(int w) {
            return w >= 0 && w < wheels;
        }

        boolean hasPen(int p) {
            return p >= 0 && p < pens;
        }

        int teethOf(int r) {
            return hasRing(r) ? teeth[r] : 0;
        }

        int cogsOf(int w) {
            return hasWheel(w) ? cogs[w] : 0;
        }

        int[] inkTold() {
            return Arrays.copyOf(ink, pens);
        }

        boolean fits(int r, int w) {
            return hasRing(r) && hasWheel(w) && cogsOf(w) < teethOf(r);
        }

        int divisorOf(int r, int w) {
            return greatestDivisor(teethOf(r), cogsOf(w));
        }

        int petalsOf(int r, int w) {
            return part(teethOf(r), divisorOf(r, w));
        }

        int roundsOf(int r, int w) {
            return part(cogsOf(w), divisorOf(r, w));
        }

        int longOf(int r, int w) {
            return teethOf(r) * roundsOf(r, w);
        }

        /** POINTS from one TOOTH to the next. */
        int stepOf(int r) {
            return part(POINTS, teethOf(r));
        }
    }

    /** THE TEXT, and its TOKENS one by one. */
    private static final class Text {
        private static final int END = 0;
        private static final int LETTERS = 1;
        private static final int NUMBER = 2;
        private static final int CLOSE = 3;
        private static final int WRONG = 4;

        private final int[] bytes = new int[MOST_BYTES];
        private int length = 0;

        private int place = 0;
        private int behind = 0;
        private int token = END;
        private int value = 0;

        boolean adds(int c) {
            if (length >= MOST_BYTES) {
                return false;
            }
            bytes[length] = c;
            length++;
            return true;
        }

        int empties() {
            int had = length;
            length = 0;
            return had;
        }

        /** Tells a new box what the text says: the FAULT, or NO_FAULT. At its end a text's TOKEN is at its length. */
        int faultIn(Box next) {
            behind = 0;
            readToken();
            for (int item = 0; item <= MOST_BYTES && token != END; item++) {
                int letter = value;
                if (token != LETTERS || !next.hasRoomFor(letter)) {
                    return place;
                }
                readToken();
                if (token != NUMBER || !next.adds(letter, value)) {
                    return place;
                }
                readToken();
                if (token != CLOSE) {
                    return place;
                }
                readToken();
            }
            return NO_FAULT;
        }

        private void readToken() {
            while (behind < length && byteAt(behind) == ' ') {
                behind++;
            }
            place = behind;
            int c = byteAt(place);
            if (place >= length) {
                token = END;
            } else if (isLetter(c)) {
                readLetters();
            } else if (isDigit(c)) {
                readNumber();
            } else {
                token = c == ';' ? CLOSE : WRONG;
                behind++;
            }
        }

        /** Every ITEM begins with one letter alone: more of them are no letter at all. */
        private void readLetters() {
            while (behind < length && isLetter(byteAt(behind))) {
                behind++;
            }
            token = LETTERS;
            value = behind - place == 1 ? byteAt(place) : 0;
        }

        /** Stays just above what a NUMBER may be, however many digits there are. */
        private void readNumber() {
            value = 0;
            while (behind < length && isDigit(byteAt(behind))) {
                value = Math.min(10 * value + byteAt(behind) - '0', MOST_INK + 1);
                behind++;
            }
            boolean zeroAhead = byteAt(place) == '0' && behind - place > 1;
            token = zeroAhead || value > MOST_INK ? WRONG : NUMBER;
        }

        private int byteAt(int at) {
            return at >= 0 && at < length ? bytes[at] : 0;
        }

        private static boolean isLetter(int c) {
            return c >= 'a' && c <= 'z';
        }

        private static boolean isDigit(int c) {
            return c >= '0' && c <= '9';
        }
    }

    /** A CURVE never changes: papers share it. */
    private static final class Curve {
        private final int ring;
        private final int wheel;
        private final int hole;
        private final int start;
        private final int pen;
        private final int lay;
        private final int petals;
        private final int rounds;
        private final int gap;
        private final int first;

        /** TIPS are equally far apart, as PETALS divide TEETH and TEETH divide 360: a gap and the first tell all. */
        Curve(Box told, int ring, int wheel, int hole, int start, int pen, int lay) {
            this.ring = ring;
            this.wheel = wheel;
            this.hole = hole;
            this.start = start;
            this.pen = pen;
            this.lay = lay;
            petals = told.petalsOf(ring, wheel);
            rounds = told.roundsOf(ring, wheel);
            gap = part(POINTS, petals);
            first = told.stepOf(ring) * start + lay;
        }

        int pointOf(int petal) {
            return rest(first + gap * petal, POINTS);
        }

        boolean hasTip(int point, int line) {
            return line == hole && rest(point - first, gap) == 0;
        }
    }

    /** How THE PAPER LIES, INK and CURVES. It never changes: a change makes the next one. */
    private static final class Paper {
        private final int lies;
        private final int[] ink;
        private final Curve[] curves;

        Paper(int lies, int[] ink, Curve[] curves) {
            this.lies = lies;
            this.ink = ink;
            this.curves = curves;
        }

        int inkOf(int p) {
            return p >= 0 && p < ink.length ? ink[p] : 0;
        }

        Curve curveAt(int k) {
            return k >= 0 && k < curves.length ? curves[k] : null;
        }

        boolean hasCurveIn(int line) {
            for (int k = 0; k < curves.length; k++) {
                Curve c = curveAt(k);
                if (c != null && c.hole == line) {
                    return true;
                }
            }
            return false;
        }

        Paper drawn(Curve c, int length) {
            Curve[] more = new Curve[curves.length + 1];
            for (int k = 0; k < curves.length; k++) {
                more[k] = curves[k];
            }
            more[curves.length] = c;
            return new Paper(lies, inkWith(c.pen, inkOf(c.pen) - length), more);
        }

        Paper rubbed(int k) {
            Curve[] fewer = new Curve[Math.max(curves.length - 1, 0)];
            for (int i = 0; i < fewer.length; i++) {
                fewer[i] = curves[i < k ? i : i + 1];
            }
            return new Paper(lies, ink, fewer);
        }

        Paper turned(int n) {
            return new Paper(rest(lies + n, POINTS), ink, curves);
        }

        Paper filled(int p, int n) {
            int[] more = inkWith(p, Math.min(inkOf(p) + n, MOST_INK));
            return new Paper(lies, more, curves);
        }

        private int[] inkWith(int p, int n) {
            int[] next = ink.clone();
            if (p >= 0 && p < next.length) {
                next[p] = n;
            }
            return next;
        }
    }

    /** What may be UNDONE: the papers ahead of the latest changes, the oldest first. Older ones are let go. */
    private static final class Past {
        private final Paper[] papers = new Paper[MOST_UNDOS];
        private int known = 0;

        void adds(Paper before) {
            if (known >= MOST_UNDOS) {
                losesOldest();
            }
            papers[known] = before;
            known++;
        }

        private void losesOldest() {
            for (int i = 1; i < MOST_UNDOS; i++) {
                papers[i - 1] = papers[i];
            }
            known = MOST_UNDOS - 1;
        }

        /** The paper ahead of the latest change, which is known no more; null, if there is none. */
        Paper takesLatest() {
            if (known <= 0) {
                return null;
            }
            known--;
            Paper latest = papers[known];
            papers[known] = null;
            return latest;
        }

        void empties() {
            for (int i = 0; i < MOST_UNDOS; i++) {
                papers[i] = null;
            }
            known = 0;
        }

        void becomes(Past other) {
            for (int i = 0; i < MOST_UNDOS; i++) {
                papers[i] = other.papers[i];
            }
            known = other.known;
        }
    }

    /** What is kept of NOW. Its past is a copy, as that of NOW goes on. */
    private static final class Image {
        private final Paper paper;
        private final Past past = new Past();

        Image(Paper paper, Past past) {
            this.paper = paper;
            this.past.becomes(past);
        }
    }

    /** What was SEEN of an unknown CURVE. */
    private static final class Sights {
        private final int[] tooth = new int[MOST_SEEN];
        private final boolean[] tip = new boolean[MOST_SEEN];
        private int seen = 0;

        boolean adds(int atTooth, boolean wasTip) {
            if (seen >= MOST_SEEN) {
                return false;
            }
            tooth[seen] = atTooth;
            tip[seen] = wasTip;
            seen++;
            return true;
        }

        int empties() {
            int had = seen;
            seen = 0;
            return had;
        }

        /** Whether all that was SEEN is so by that START; where there is no such TOOTH, there is no TIP. */
        boolean agree(int teeth, int divisor, int start) {
            for (int i = 0; i < seen; i++) {
                boolean isTip = tooth[i] < teeth && rest(tooth[i] - start, divisor) == 0;
                if (isTip != tip[i]) {
                    return false;
                }
            }
            return true;
        }

        int startsAgreeing(int teeth, int divisor) {
            int starts = 0;
            for (int start = 0; start < divisor; start++) {
                if (agree(teeth, divisor, start)) {
                    starts++;
                }
            }
            return starts;
        }

        int firstAgreeing(int teeth, int divisor) {
            for (int start = 0; start < divisor; start++) {
                if (agree(teeth, divisor, start)) {
                    return start;
                }
            }
            return NONE;
        }
    }
}
