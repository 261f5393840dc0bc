import java.util.ArrayList;
import java.util.List;

/**
 * A run of calls up to a boundary. It never goes on itself: each question is put to a new object to which the run's
 * calls have been put first, so that what one question does can't hide what the next one would show.
 */
final class Run {
    private static final int MOST_CALLS = 512;

    private final Checks is;
    private final List<Call> calls;
    private List<long[]> seen = null;

    private Run(Checks is, List<Call> calls) {
        this.is = is;
        this.calls = calls;
    }

    static Run fresh(Checks is) {
        return new Run(is, new ArrayList<>());
    }

    /** Goes on with calls none of which is refused. */
    Run then(String... more) {
        PetalWheels x = made(more.length);
        List<Call> all = new ArrayList<>(calls);
        for (String told : more) {
            Call call = Call.of(told);
            is.holds("is taken: " + told, call.put(x) >= 0);
            all.add(call);
        }
        return new Run(is, all);
    }

    Run times(int n, String call) {
        String[] all = new String[n];
        java.util.Arrays.fill(all, call);
        return then(all);
    }

    Run typed(String text) {
        String[] all = new String[text.length()];
        for (int i = 0; i < all.length; i++) {
            all[i] = "type " + (int) text.charAt(i);
        }
        return then(all);
    }

    Run told(String text) {
        return typed(text).then("box");
    }

    /** What that call answers here. */
    Run due(String call, long want) {
        is.due(call, Call.of(call).put(made(1)), want);
        return this;
    }

    /** What those calls answer here, one behind the other. */
    Run due(String[] more, long[] wants) {
        PetalWheels x = made(more.length);
        for (int i = 0; i < more.length; i++) {
            is.due(more[i] + ", call " + i, Call.of(more[i]).put(x), wants[i]);
        }
        return this;
    }

    /** That call is refused, and nothing has changed behind it. */
    Run refuses(String call, long want) {
        return due(call, want).isAskedFreely(call);
    }

    /** Nothing has changed behind that call, whatever it answers. */
    Run isAskedFreely(String call) {
        compare("behind " + call, looks(Call.of(call)), looks());
        return this;
    }

    /** All that can be seen here is as it is behind another run. */
    Run isAs(String what, Run other) {
        compare(what, looks(), other.looks());
        return this;
    }

    /** Something that can be seen here is not as it is behind another run. */
    Run isNotAs(String what, Run other) {
        boolean same = true;
        for (int i = 0; i < looks().size(); i++) {
            same &= java.util.Arrays.equals(looks().get(i), other.looks().get(i));
        }
        is.holds(what, !same);
        return this;
    }

    /**
     * Where # stands, numbers from least to most may be: those just beyond, those that would become one of them in
     * fewer bits, and those far off are refused.
     */
    Run bounds(String call, int least, int most, long refusal) {
        int[] within = {least, most};
        int[] beyond = {
            least - 1, most + 1, least - 256, most + 256, least - 65536, most + 65536, Integer.MIN_VALUE, Integer.MAX_VALUE,
            Integer.MIN_VALUE + least, Integer.MIN_VALUE + most};
        for (int n : within) {
            String told = call.replace("#", String.valueOf(n));
            is.holds("is as told: " + told, Call.of(told).put(made(1)) != refusal);
        }
        for (int n : beyond) {
            refuses(call.replace("#", String.valueOf(n)), refusal);
        }
        return this;
    }

    private PetalWheels made(int callsMore) {
        if (calls.size() + callsMore > MOST_CALLS) {
            throw new IllegalStateException("an object is used for 512 calls at most");
        }
        PetalWheels x = new PetalWheels();
        for (Call call : calls) {
            call.put(x);
        }
        return x;
    }

    private List<long[]> looks() {
        if (seen == null) {
            seen = looks(null);
        }
        return seen;
    }

    private List<long[]> looks(Call first) {
        List<long[]> all = new ArrayList<>();
        for (List<Call> list : Looks.LISTS) {
            PetalWheels x = made(list.size() + 1);
            if (first != null) {
                first.put(x);
            }
            long[] answers = new long[list.size()];
            for (int i = 0; i < answers.length; i++) {
                answers[i] = list.get(i).put(x);
            }
            all.add(answers);
        }
        return all;
    }

    private void compare(String what, List<long[]> got, List<long[]> want) {
        for (int i = 0; i < got.size(); i++) {
            int at = java.util.Arrays.mismatch(got.get(i), want.get(i));
            if (at < 0) {
                is.holds(what, true);
            } else {
                is.due(what + ": " + Looks.LISTS.get(i).get(at), got.get(i)[at], want.get(i)[at]);
            }
        }
    }
}
