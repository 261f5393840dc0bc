/** One call with its arguments, told as a text: "draws 0 0 1 0 0". */
final class Call {
    private final String name;
    private final int[] args;

    Call(String name, int... args) {
        this.name = name;
        // Every call may look at five arguments, however few it takes.
        this.args = java.util.Arrays.copyOf(args, 5);
    }

    static Call of(String told) {
        String[] words = told.split(" ");
        int[] args = new int[words.length - 1];
        for (int i = 0; i < args.length; i++) {
            args[i] = Integer.parseInt(words[i + 1]);
        }
        return new Call(words[0], args);
    }

    long put(PetalWheels x) {
        int a = args[0];
        int b = args[1];
        int c = args[2];
        int d = args[3];
        int e = args[4];
        switch (name) {
            case "type": return x.type(a);
            case "clear": return x.clear();
            case "box": return x.box();
            case "ring": return x.ring(a);
            case "wheel": return x.wheel(a, b, c);
            case "pen": return x.pen(a, b);
            case "curve": return x.curve(a, b);
            case "draws": return x.draws(a, b, c, d, e);
            case "rubs": return x.rubs(a);
            case "spins": return x.spins(a);
            case "fills": return x.fills(a, b);
            case "undo": return x.undo();
            case "now": return x.now(a);
            case "shown": return x.shown(a, b);
            case "petals": return x.petals(a, b);
            case "closes": return x.closes(a, b, c);
            case "best": return x.best(a, b);
            case "meet": return x.meet(a, b);
            case "odds": return x.odds(a, b, c, d);
            case "sees": return x.sees(a, b);
            case "forget": return x.forget();
            case "guess": return x.guess(a, b);
            case "look": return x.look(a);
            case "mark": return x.mark(a, b);
            case "keep": return x.keep(a);
            case "back": return x.back(a);
            case "count": return x.count(a);
            case "trace": return x.trace();
            default: throw new IllegalArgumentException("no such call: " + name);
        }
    }

    @Override
    public String toString() {
        return name + java.util.Arrays.toString(args);
    }
}
