import java.util.List;

/** Counts answers that are not as due and tells them. */
final class Check {
    private int calls = 0;
    private int wrong = 0;
    private String part = "";

    void part(String name) {
        part = name;
    }

    void due(String call, long got, long want) {
        calls++;
        if (got != want) {
            wrong++;
            System.out.println(part + ": " + call + " answered " + got + ", due is " + want);
        }
    }

    /** Two rows of answers; the first that differs is told. */
    void same(String what, List<Integer> got, List<Integer> want) {
        int at = 0;
        while (at < got.size() && at < want.size() && got.get(at).equals(want.get(at))) {
            at++;
        }
        due(what + ": answers that are alike", at, want.size());
        due(what + ": answers", got.size(), want.size());
    }

    int calls() {
        return calls;
    }

    /** A call that is refused tells why by its answer and by status(). */
    void refused(String call, ColoursApart x, long got, long want) {
        due(call, got, want);
        due(call + ", then status()", x.status(), want);
    }

    /** A call that is not refused leaves status() at 0. */
    void taken(String call, ColoursApart x, long got, long want) {
        due(call, got, want);
        due(call + ", then status()", x.status(), 0);
    }

    void end(String test) {
        System.out.println(test + ": " + calls + " answers, " + wrong + " not as due");
        if (wrong != 0) {
            System.exit(1);
        }
    }
}
