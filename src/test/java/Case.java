import java.util.ArrayList;
import java.util.List;
import java.util.function.Consumer;

/**
 * Words of the document, the calls that show whether they hold, and changes of the class that break them: each is a
 * text that stands once in the class (comments left out, blanks folded) and what to put in its place.
 */
final class Case {
    final String part;
    final String words;
    final Consumer<Check> asks;
    final String[] breaks;

    private Case(String part, String words, Consumer<Check> asks, String[] breaks) {
        this.part = part;
        this.words = words;
        this.asks = asks;
        this.breaks = breaks;
    }

    static Case of(String part, String words, Consumer<Check> asks, String... breaks) {
        return new Case(part, words, asks, breaks);
    }

    static List<Case> all() {
        List<Case> all = new ArrayList<>();
        all.addAll(LineCases.all());
        all.addAll(BidCases.all());
        all.addAll(PathCases.all());
        all.addAll(GivenCases.all());
        all.addAll(RoundCases.all());
        all.addAll(BreakCases.all());
        all.addAll(RunCases.all());
        all.addAll(RanCases.all());
        all.addAll(RefusedCases.all());
        return all;
    }

    /** How many answers of a case are not as due; BrokenTest asks this with a broken class. */
    static int wrongIn(int number) {
        return all().get(number).run().wrong.size();
    }

    String name() {
        return part + ": " + words;
    }

    /** What a call throws is an answer that is not as due. */
    Check run() {
        Check check = new Check();
        try {
            asks.accept(check);
        } catch (RuntimeException e) {
            check.wrong.add("threw " + e);
        }
        return check;
    }
}
