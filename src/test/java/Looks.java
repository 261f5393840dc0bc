import java.util.ArrayList;
import java.util.List;

/**
 * All that can be seen of an object: lists of calls, each list put to an object of its own, as some change what they
 * look at, and as an object is used for 512 calls at most.
 */
final class Looks {
    static final int MOST = 210;
    static final List<List<Call>> LISTS = new ArrayList<>();

    static {
        LISTS.add(overview());
        LISTS.add(wheels());
        addInParts(shown());
        addInParts(petals());
        addInParts(odds());
        addInParts(best());
        addInParts(meet());
        LISTS.add(undone());
        for (int image = 0; image <= 1; image++) {
            LISTS.add(behind("back " + image, overview()));
            LISTS.add(behind("back " + image, undone()));
        }
        LISTS.add(behind("box", overview()));
        // A text that has no end yet shows what it holds as soon as it has one.
        LISTS.add(behind("type 59", behind("box", overview())));
        LISTS.add(behind("clear", behind("forget", overview())));
    }

    private Looks() {
    }

    private static void add(List<Call> list, String told) {
        list.add(Call.of(told));
    }

    private static void addInParts(List<Call> list) {
        for (int at = 0; at < list.size(); at += MOST) {
            LISTS.add(list.subList(at, Math.min(at + MOST, list.size())));
        }
    }

    private static List<Call> behind(String told, List<Call> list) {
        List<Call> all = new ArrayList<>();
        add(all, told);
        all.addAll(list);
        return all;
    }

    private static List<Call> overview() {
        List<Call> list = new ArrayList<>();
        add(list, "trace");
        for (int n = 0; n <= 5; n++) {
            add(list, "count " + n);
        }
        for (int n = 0; n <= 3; n++) {
            add(list, "now " + n);
            add(list, "ring " + n);
            add(list, "pen " + n + " 0");
            add(list, "pen " + n + " 1");
            add(list, "guess " + n + " 0");
            add(list, "guess " + n + " 1");
            add(list, "look " + n);
        }
        for (int k = 0; k <= 11; k++) {
            for (int what = 0; what <= 6; what++) {
                add(list, "curve " + k + " " + what);
            }
        }
        return list;
    }

    private static List<Call> wheels() {
        List<Call> list = new ArrayList<>();
        for (int r = 0; r <= 3; r++) {
            for (int w = 0; w <= 5; w++) {
                for (int what = 0; what <= 3; what++) {
                    add(list, "wheel " + r + " " + w + " " + what);
                }
            }
        }
        return list;
    }

    private static List<Call> shown() {
        List<Call> list = new ArrayList<>();
        for (int line = 1; line <= 9; line++) {
            for (int point = 0; point <= 359; point++) {
                add(list, "shown " + point + " " + line);
            }
        }
        return list;
    }

    private static List<Call> petals() {
        List<Call> list = new ArrayList<>();
        for (int r = 0; r <= 3; r++) {
            for (int n = 1; n <= 120; n++) {
                add(list, "petals " + r + " " + n);
            }
        }
        return list;
    }

    private static List<Call> odds() {
        List<Call> list = new ArrayList<>();
        for (int r = 0; r <= 3; r++) {
            for (int w = 0; w <= 5; w++) {
                for (int point = 0; point <= 359; point += 30) {
                    add(list, "odds " + r + " " + w + " " + point + " 0");
                    add(list, "odds " + r + " " + w + " " + point + " 1");
                }
            }
        }
        return list;
    }

    private static List<Call> best() {
        List<Call> list = new ArrayList<>();
        for (int n = 0; n <= 3; n++) {
            add(list, "best " + n + " 0");
            add(list, "best " + n + " 1");
            for (int line = 1; line <= 9; line++) {
                add(list, "closes " + n + " " + line + " 0");
                add(list, "closes " + n + " " + line + " 1");
            }
        }
        return list;
    }

    private static List<Call> meet() {
        List<Call> list = new ArrayList<>();
        for (int k = 0; k <= 11; k++) {
            for (int l = 0; l <= 11; l++) {
                add(list, "meet " + k + " " + l);
            }
        }
        return list;
    }

    private static List<Call> undone() {
        List<Call> list = new ArrayList<>();
        for (int n = 0; n <= 10; n++) {
            add(list, "undo");
            add(list, "now 0");
            add(list, "now 1");
            for (int p = 0; p <= 3; p++) {
                add(list, "pen " + p + " 0");
            }
            for (int k = 0; k <= 11; k++) {
                add(list, "curve " + k + " 3");
            }
        }
        return list;
    }
}
