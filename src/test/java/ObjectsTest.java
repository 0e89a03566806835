import java.util.ArrayList;
import java.util.List;
import java.util.Random;

/** Objects know nothing of one another, and the same calls always have the same answers. */
public final class ObjectsTest {
    private static final Check check = new Check();

    public static void main(String[] args) {
        newBesideUsed();
        for (int run = 0; run < 40; run++) {
            sameCalls(run);
            byTurns(run);
        }
        check.end();
    }

    /** A new object is as told, whatever others were called. */
    private static void newBesideUsed() {
        LetterDebts full = new LetterDebts();
        Scenes.full(full);
        full.weight(7, 0, 0);
        full.pay(0, 0, 0, 20);
        full.pay(0, 0, 1, 20);
        full.place(0, 0, 9);
        full.place(0, 1, 9);
        LetterDebts x = new LetterDebts();
        for (int what = 0; what <= 10; what++) {
            check.due("count " + what, x.count(what), 0);
        }
        check.due("trace", x.trace(), 0);
        check.due("no rule", x.due(0, 200), 0);
        check.due("no span", x.could(0, 200), 1);
        check.due("told", x.pay(0, 0, 0, 1), 0);
        check.due("true", x.pay(0, 0, 1, 1), 0);
        check.due("lives", x.place(0, 0, 1), 0);
        check.due("known", x.place(0, 1, 1), 0);
        check.due("no image 0", x.back(0), Check.STATE);
        check.due("no image 1", x.back(1), Check.STATE);
        check.due("a firm where the other has one", x.firm(0, 0, 1, 1), 1);
        check.due("rules of an empty text", x.rules(), 0);
        check.due("the other's rules", full.count(0), 6);
        check.due("the other's told", full.pay(0, 0, 0, 0), 20);
        check.due("the other lives", full.place(0, 0, 0), 9);
    }

    private static List<AnyCall> script(int seed) {
        Random random = new Random(seed);
        List<AnyCall> calls = new ArrayList<>();
        for (int i = 0; i < 250; i++) {
            calls.add(AnyCall.some(random, 12));
        }
        return calls;
    }

    private static LetterDebts busy() {
        LetterDebts x = new LetterDebts();
        Scenes.busy(x);
        return x;
    }

    private static List<Long> answers(List<AnyCall> calls) {
        LetterDebts x = busy();
        List<Long> answers = new ArrayList<>();
        for (AnyCall call : calls) {
            answers.add(call.on(x));
        }
        return answers;
    }

    private static void sameCalls(int run) {
        List<AnyCall> calls = script(run);
        check.holds("the same answers again, run " + run, answers(calls).equals(answers(calls)));
    }

    private static void byTurns(int run) {
        List<AnyCall> one = script(run);
        List<AnyCall> other = script(run + 1000);
        List<Long> wanted = answers(one);
        List<Long> wantedOther = answers(other);
        LetterDebts x = busy();
        LetterDebts y = busy();
        for (int i = 0; i < one.size(); i++) {
            check.due("run " + run + ", " + i + " " + one.get(i), one.get(i).on(x), wanted.get(i));
            check.due("run " + run + ", other " + i + " " + other.get(i), other.get(i).on(y), wantedOther.get(i));
        }
    }
}
