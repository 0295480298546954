import java.util.ArrayList;
import java.util.List;
import java.util.function.Consumer;
import java.util.function.Function;
import java.util.function.Supplier;
import java.util.function.ToIntFunction;

/**
 * Two objects made by the same calls: a call that must change nothing is made on one of them, and then they must be
 * alike in all that can be asked, undone, gone back to or read off the tape.
 */
final class Twins {
    private Twins() {
    }

    /** A call that is refused. */
    static void refused(String call, Supplier<PaperRiver> make, ToIntFunction<PaperRiver> made, int answer) {
        Due.is(call, made.applyAsInt(make.get()), answer);
        unchanged(call, make, made);
    }

    static void unchanged(String call, Supplier<PaperRiver> make, ToIntFunction<PaperRiver> made) {
        alike(call, make, made::applyAsInt, x -> { });
    }

    /** Each way of looking is gone on objects of its own, as most of them change what they look at. */
    static void alike(String what, Supplier<PaperRiver> make, Consumer<PaperRiver> one, Consumer<PaperRiver> other) {
        for (Function<PaperRiver, List<Integer>> way : ways()) {
            PaperRiver a = make.get();
            PaperRiver b = make.get();
            one.accept(a);
            other.accept(b);
            List<Integer> answersOfA = way.apply(a);
            List<Integer> answersOfB = way.apply(b);
            if (!answersOfA.equals(answersOfB)) {
                Due.complain("something is other behind " + what + ": " + answersOfA + ", due is " + answersOfB);
                return;
            }
        }
    }

    private static List<Function<PaperRiver, List<Integer>>> ways() {
        List<Function<PaperRiver, List<Integer>>> ways = new ArrayList<>();
        ways.add(Twins::seen);
        ways.add(Twins::undone);
        ways.add(x -> behind(x, PaperRiver::river));
        ways.add(x -> behind(x, PaperRiver::rule));
        ways.add(x -> behind(x, PaperRiver::day));
        for (int k = 0; k < 4; k++) {
            int number = k;
            ways.add(x -> behind(x, y -> y.back(number)));
        }
        for (int rule = 0; rule < 6; rule++) {
            int number = rule;
            ways.add(x -> behind(x, y -> y.force(number)));
        }
        return ways;
    }

    private static List<Integer> behind(PaperRiver x, ToIntFunction<PaperRiver> call) {
        int answer = call.applyAsInt(x);
        List<Integer> answers = seen(x);
        answers.add(answer);
        return answers;
    }

    private static List<Integer> undone(PaperRiver x) {
        List<Integer> answers = new ArrayList<>();
        for (int acts = x.count(10); acts >= 0; acts--) {
            answers.add(x.undo());
            answers.add(x.count(3));
            answers.add(x.count(4));
            answers.add(x.count(7));
            answers.add(x.count(8));
            answers.add(x.count(9));
        }
        answers.addAll(seen(x));
        return answers;
    }

    /** All that can be asked of what is. */
    private static List<Integer> seen(PaperRiver x) {
        List<Integer> answers = new ArrayList<>();
        for (int what = 0; what <= 12; what++) {
            answers.add(x.count(what));
        }
        for (int cell = 0; cell < x.count(0); cell++) {
            for (int what = 0; what <= 5; what++) {
                answers.add(x.cell(cell, what));
            }
        }
        for (int scrap = 0; scrap < x.count(4); scrap++) {
            for (int what = 0; what <= 5; what++) {
                answers.add(x.scrap(scrap, what));
            }
            answers.add(x.ahead(scrap, 3, 1));
        }
        for (int mill = 0; mill < x.count(1); mill++) {
            answers.add(x.share(mill, 0));
            answers.add(x.share(mill, 1));
        }
        for (int what = 0; what <= 2; what++) {
            answers.add(x.years(2, 5, what));
        }
        return answers;
    }
}
