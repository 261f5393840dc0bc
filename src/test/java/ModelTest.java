import java.util.Random;

/** Runs of calls that a fixed seed tells, each answered by the class and by the model. */
public final class ModelTest {
    private static final int RUNS = 1500;
    private static final int CALLS = 512;
    private static final int[] TEETH = {12, 15, 18, 20, 24, 30, 36, 40, 45, 60, 72, 90, 120};
    private static final String[] NAMES = {
        "type", "clear", "box", "ring", "wheel", "pen", "curve", "draws", "rubs", "spins", "fills", "undo", "now", "shown",
        "petals", "closes", "best", "meet", "odds", "sees", "forget", "guess", "look", "mark", "keep", "back", "count", "trace"};

    private static final Checks is = new Checks();

    private final Random random;
    private final int run;
    private final PetalWheels x = new PetalWheels();
    private final Model model = new Model();
    private int calls = 0;

    private ModelTest(int run) {
        this.run = run;
        random = new Random(run);
    }

    public static void main(String[] args) {
        for (int run = 0; run < RUNS; run++) {
            new ModelTest(run).go();
        }
        is.end();
    }

    private void go() {
        readText();
        while (calls < CALLS) {
            int dice = random.nextInt(1000);
            if (dice < 3) {
                readText();
            } else if (dice < 500) {
                change();
            } else {
                call(NAMES[random.nextInt(NAMES.length)]);
            }
        }
    }

    private void change() {
        String[] names = {"draws", "draws", "draws", "draws", "draws", "rubs", "spins", "fills", "fills", "undo", "sees", "keep", "back", "forget"};
        call(names[random.nextInt(names.length)]);
    }

    /** A text of items, now and then with something wrong in it. */
    private void readText() {
        ask("clear", 0, 0, 0, 0, 0);
        StringBuilder text = new StringBuilder();
        int rings = random.nextInt(random.nextInt(30) == 0 ? 6 : 5);
        int wheels = random.nextInt(random.nextInt(30) == 0 ? 8 : 7);
        int pens = random.nextInt(random.nextInt(30) == 0 ? 6 : 5);
        boolean few = random.nextInt(2) == 0;
        for (int i = 0; i < rings; i++) {
            item(text, "r", TEETH[random.nextInt(few ? 5 : TEETH.length)]);
        }
        for (int i = 0; i < wheels; i++) {
            item(text, "w", few ? 3 + random.nextInt(15) : 3 + random.nextInt(97));
        }
        for (int i = 0; i < pens; i++) {
            item(text, "p", random.nextInt(3) == 0 ? 999 : random.nextInt(1000));
        }
        if (random.nextInt(4) == 0 && text.length() > 0) {
            spoil(text);
        }
        for (int i = 0; i < text.length(); i++) {
            ask("type", text.charAt(i), 0, 0, 0, 0);
        }
        ask("box", 0, 0, 0, 0, 0);
    }

    private void item(StringBuilder text, String letter, int n) {
        text.append(blanks()).append(letter).append(blanks()).append(n).append(blanks()).append(';');
    }

    private String blanks() {
        return random.nextInt(25) == 0 ? "  " : "";
    }

    private void spoil(StringBuilder text) {
        String signs = "rwpxz;0123456789 -A" + (char) 0 + (char) 255;
        char c = signs.charAt(random.nextInt(signs.length()));
        int at = random.nextInt(text.length());
        switch (random.nextInt(4)) {
            case 0:
                text.deleteCharAt(at);
                break;
            case 1:
                text.insert(at, c);
                break;
            case 2:
                text.setCharAt(at, c);
                break;
            default:
                text.setLength(at);
        }
    }

    /** Mostly a number that there may be, now and then one beside it, or far off. */
    private int number(int least, int most) {
        int dice = random.nextInt(60);
        if (dice == 0) {
            return least - 1;
        }
        if (dice == 1) {
            return most + 1;
        }
        if (dice == 2) {
            return random.nextInt();
        }
        if (dice == 3) {
            return random.nextBoolean() ? Integer.MIN_VALUE : Integer.MAX_VALUE;
        }
        return most < least ? least : least + random.nextInt(most - least + 1);
    }

    private int ring() {
        return number(0, model.count(0) - 1);
    }

    private int wheel() {
        return number(0, model.count(1) - 1);
    }

    private int pen() {
        return number(0, model.count(2) - 1);
    }

    private int curve() {
        return number(0, model.now(1) - 1);
    }

    private int line() {
        return random.nextInt(4) == 0 ? number(1, 9) : number(1, 2);
    }

    /** Half the time a point at which there is a tooth. */
    private int point(int r) {
        int teeth = model.ring(r);
        if (teeth > 0 && random.nextBoolean()) {
            return (360 / teeth * random.nextInt(teeth) + model.now(0)) % 360;
        }
        return number(0, 359);
    }

    private void call(String name) {
        int r = ring();
        int teeth = Math.max(model.ring(r), 1);
        switch (name) {
            case "type":
                ask(name, number(0, 255), 0, 0, 0, 0);
                break;
            case "box":
                // An empty text would end the run's curves too often.
                if (random.nextInt(10) == 0) {
                    ask(name, 0, 0, 0, 0, 0);
                }
                break;
            case "ring":
            case "look":
                ask(name, r, 0, 0, 0, 0);
                break;
            case "wheel":
                ask(name, r, wheel(), number(0, 3), 0, 0);
                break;
            case "pen":
            case "best":
                ask(name, pen(), number(0, 1), 0, 0, 0);
                break;
            case "curve":
                ask(name, curve(), number(0, 6), 0, 0, 0);
                break;
            case "draws":
                ask(name, r, wheel(), line(), number(0, teeth - 1), pen());
                break;
            case "rubs":
                ask(name, curve(), 0, 0, 0, 0);
                break;
            case "spins":
                ask(name, random.nextBoolean() ? number(1, 359) : 30 * number(1, 11), 0, 0, 0, 0);
                break;
            case "fills":
                ask(name, pen(), number(1, 999), 0, 0, 0);
                break;
            case "now":
                ask(name, number(0, 3), 0, 0, 0, 0);
                break;
            case "shown":
                ask(name, point(r), line(), 0, 0, 0);
                break;
            case "petals":
                ask(name, r, random.nextBoolean() ? number(1, 120) : number(1, 12), 0, 0, 0);
                break;
            case "closes":
                ask(name, r, line(), number(0, 1), 0, 0);
                break;
            case "meet":
                ask(name, curve(), curve(), 0, 0, 0);
                break;
            case "odds":
                ask(name, r, wheel(), point(r), number(0, 1), 0);
                break;
            case "sees":
                ask(name, random.nextInt(4) == 0 ? number(0, 119) : number(0, teeth - 1), random.nextInt(3) == 0 ? number(0, 1) : 0, 0, 0, 0);
                break;
            case "guess":
                ask(name, r, number(0, 1), 0, 0, 0);
                break;
            case "mark":
                ask(name, number(0, 5), curve(), 0, 0, 0);
                break;
            case "keep":
            case "back":
                ask(name, number(0, 1), 0, 0, 0, 0);
                break;
            case "count":
                ask(name, number(0, 5), 0, 0, 0, 0);
                break;
            default:
                ask(name, 0, 0, 0, 0, 0);
        }
    }

    private void ask(String name, int a, int b, int c, int d, int e) {
        if (calls >= CALLS) {
            return;
        }
        calls++;
        long got = new Call(name, a, b, c, d, e).put(x);
        long want = due(name, a, b, c, d, e);
        if (got != want) {
            is.due("run " + run + ", call " + calls + ": " + name + "(" + a + ", " + b + ", " + c + ", " + d + ", " + e + ")", got, want);
            calls = CALLS;
        } else {
            is.due(name, got, want);
        }
    }

    private long due(String name, int a, int b, int c, int d, int e) {
        switch (name) {
            case "type": return model.type(a);
            case "clear": return model.clear();
            case "box": return model.box();
            case "ring": return model.ring(a);
            case "wheel": return model.wheel(a, b, c);
            case "pen": return model.pen(a, b);
            case "curve": return model.curve(a, b);
            case "draws": return model.draws(a, b, c, d, e);
            case "rubs": return model.rubs(a);
            case "spins": return model.spins(a);
            case "fills": return model.fills(a, b);
            case "undo": return model.undo();
            case "now": return model.now(a);
            case "shown": return model.shown(a, b);
            case "petals": return model.petals(a, b);
            case "closes": return model.closes(a, b, c);
            case "best": return model.best(a, b);
            case "meet": return model.meet(a, b);
            case "odds": return model.odds(a, b, c, d);
            case "sees": return model.sees(a, b);
            case "forget": return model.forget();
            case "guess": return model.guess(a, b);
            case "look": return model.look(a);
            case "mark": return model.mark(a, b);
            case "keep": return model.keep(a);
            case "back": return model.back(a);
            case "count": return model.count(a);
            default: return model.trace();
        }
    }
}
