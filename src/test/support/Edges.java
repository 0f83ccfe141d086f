import java.util.function.Supplier;

/** Calls at the edges of what the document names: taken at the edge, refused just beyond it, nothing else changed. */
final class Edges {
    interface Call {
        int on(ColoursApart x);
    }

    interface NumberCall {
        int on(ColoursApart x, int n);
    }

    private final Check check;

    Edges(Check check) {
        this.check = check;
    }

    /** The call answers `why`, as status() does then, and leaves all else of a busy object as it is. */
    void refused(String name, int why, Call call) {
        refusedOf(Busy::make, name, why, call);
    }

    /** The same of another object than the busy one. */
    void refusedOf(Supplier<ColoursApart> made, String name, int why, Call call) {
        ColoursApart x = made.get();
        check.due(name, call.on(x), why);
        check.due(name + ", then status()", x.status(), why);
        changesNothing(made, name, call);
    }

    /** A question that status() does not tell of: the answer, and nothing is changed, status() neither. */
    void asked(String name, int answer, Call call) {
        askedOf(Busy::make, name, answer, call);
    }

    void askedOf(Supplier<ColoursApart> made, String name, int answer, Call call) {
        ColoursApart x = made.get();
        x.levels(x.levels(5));
        check.due(name, call.on(x), answer);
        check.due(name + ", then status()", x.status(), 0);
        ColoursApart y = made.get();
        y.ramp(0, 0, 2);
        check.due(name, call.on(y), answer);
        check.due(name + ", then status() is as ahead", y.status(), -6);
        changesNothing(made, name, call);
    }

    /** Two objects alike, one of which has had the call: each question has the same answer. */
    void changesNothing(Supplier<ColoursApart> made, String name, Call call) {
        for (int look = 0; look < Busy.looks(); look++) {
            ColoursApart x = made.get();
            call.on(x);
            check.same(name + " changes nothing (look " + look + ")", Busy.look(look, x), Busy.look(look, made.get()));
        }
    }

    /** From .. to is taken at both ends; what lies just beyond each, and far off, is refused by `why`. */
    void range(String name, int from, int to, int why, NumberCall call) {
        rangeOf(Busy::make, name, from, to, why, call);
    }

    void rangeOf(Supplier<ColoursApart> made, String name, int from, int to, int why, NumberCall call) {
        taken(made, name, from, call);
        taken(made, name, to, call);
        for (int n : new int[] {from - 1, to + 1, Integer.MIN_VALUE, Integer.MAX_VALUE}) {
            refusedOf(made, name + " with " + n, why, x -> call.on(x, n));
        }
    }

    private void taken(Supplier<ColoursApart> made, String name, int n, NumberCall call) {
        ColoursApart x = made.get();
        x.sights(0);
        int answer = call.on(x, n);
        check.due(name + " with " + n + " is taken (" + answer + ")", answer >= 0 ? 1 : 0, 1);
        check.due(name + " with " + n + ", then status()", x.status(), 0);
    }

    /** A range of a question: answered at both ends; just beyond each, and far off, the answer is `why`. */
    void askedRange(String name, int from, int to, int why, NumberCall call) {
        answered(name, from, call);
        answered(name, to, call);
        for (int n : new int[] {from - 1, to + 1, Integer.MIN_VALUE, Integer.MAX_VALUE}) {
            asked(name + " with " + n, why, x -> call.on(x, n));
        }
    }

    private void answered(String name, int n, NumberCall call) {
        int answer = call.on(Busy.make(), n);
        check.due(name + " with " + n + " is answered (" + answer + ")", answer >= 0 ? 1 : 0, 1);
        changesNothing(Busy::make, name + " with " + n, x -> call.on(x, n));
    }
}
