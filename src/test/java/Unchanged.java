import java.util.ArrayList;
import java.util.HashMap;
import java.util.List;
import java.util.Map;
import java.util.function.Consumer;
import java.util.function.ToIntFunction;

/**
 * A refused call changes nothing: of two objects with the same calls, one is
 * refused a call as well, and then both answer all later questions alike. An
 * object is good for 512 calls, so each group of questions has its own two.
 */
final class Unchanged {
    /** Questions that no later one of the same group can see. */
    interface Questions {
        void ask(LetterDebts x, List<Long> answers);
    }

    private static final List<Questions> ALL = List.of(
        Unchanged::counts, Unchanged::text, Unchanged::pays, Unchanged::spans, Unchanged::couldBe,
        Unchanged::moreFirms, Unchanged::moreSlips, Unchanged::debts, Unchanged::rights, Unchanged::holds,
        Unchanged::moreDebts, Unchanged::letters, Unchanged::moreLetters, Unchanged::line,
        (x, a) -> places(x, a, 0), (x, a) -> places(x, a, 1), (x, a) -> places(x, a, 9),
        Unchanged::weights, (x, a) -> image(x, a, 0), (x, a) -> image(x, a, 1));

    private final Check check;
    private final String name;
    private final Consumer<LetterDebts> scene;
    private final Map<Questions, List<Long>> wanted = new HashMap<>();

    Unchanged(Check check, String name, Consumer<LetterDebts> scene) {
        this.check = check;
        this.name = name;
        this.scene = scene;
        for (Questions q : ALL) {
            wanted.put(q, answers(made(), q));
        }
    }

    LetterDebts made() {
        LetterDebts x = new LetterDebts();
        scene.accept(x);
        return x;
    }

    private static List<Long> answers(LetterDebts x, Questions q) {
        List<Long> answers = new ArrayList<>();
        q.ask(x, answers);
        return answers;
    }

    /** The call is answered so, twice, and nothing changes. */
    void refused(String call, ToIntFunction<LetterDebts> asked, int want) {
        for (Questions q : ALL) {
            LetterDebts x = made();
            check.due(name + ": " + call, asked.applyAsInt(x), want);
            check.due(name + ", again: " + call, asked.applyAsInt(x), want);
            List<Long> seen = answers(x, q);
            check.holds(name + ": " + call + " changes nothing, questions " + ALL.indexOf(q)
                + "\n " + seen + "\n " + wanted.get(q), seen.equals(wanted.get(q)));
        }
    }

    private static void counts(LetterDebts x, List<Long> a) {
        for (int what = 0; what <= 10; what++) {
            a.add((long) x.count(what));
        }
        a.add(x.trace());
    }

    private static void text(LetterDebts x, List<Long> a) {
        for (int day : new int[] {0, 1, 5, 6, 11, 199, 200}) {
            for (int pay = 0; pay <= 20; pay += 4) {
                a.add((long) x.due(pay, day));
            }
        }
        a.add((long) x.rules());
        Check.typed(x, " 4 free 0 take 1/1;");
        a.add((long) x.rules());
        a.add((long) x.due(0, 3));
        a.add((long) x.clear());
    }

    private static void pays(LetterDebts x, List<Long> a) {
        for (int p = 0; p < 6; p++) {
            for (int f = 0; f < 10; f++) {
                a.add((long) x.pay(p, f, 0, 0));
                a.add((long) x.pay(p, f, 1, 0));
            }
        }
    }

    private static void spans(LetterDebts x, List<Long> a) {
        for (int p = 0; p < 6; p++) {
            for (int f = 0; f < 10; f++) {
                a.add((long) x.span(p, 200, f, 0));
                a.add((long) x.span(p, 200, f, 1));
                a.add((long) x.span(p, 1, f, 1));
            }
        }
    }

    private static void couldBe(LetterDebts x, List<Long> a) {
        for (int p = 0; p < 6; p++) {
            for (int day : new int[] {1, 2, 200}) {
                a.add((long) x.could(p, day));
                a.add((long) x.stands(p, day));
                a.add((long) x.tells(p, day));
                a.add((long) x.settles(p, day, 1));
                for (int what = 0; what < 4; what++) {
                    a.add((long) x.owed(p, day, what));
                }
            }
        }
    }

    private static void moreFirms(LetterDebts x, List<Long> a) {
        for (int p = 0; p < 6; p++) {
            for (int f = 0; f < 10; f++) {
                a.add((long) x.firm(p, f, f, 3));
            }
        }
    }

    private static void moreSlips(LetterDebts x, List<Long> a) {
        for (int p = 0; p < 6; p++) {
            for (int f = 0; f < 10; f++) {
                a.add((long) x.slip(p, f, 12));
                a.add((long) x.slip(p, f, 4));
            }
        }
    }

    private static void debts(LetterDebts x, List<Long> a) {
        for (int d = 0; d < 20; d++) {
            for (int what = 0; what <= 6; what++) {
                a.add((long) x.about(d, what));
            }
        }
    }

    private static void rights(LetterDebts x, List<Long> a) {
        for (int d = 0; d < 20; d++) {
            a.add((long) x.right(d, 0));
            a.add((long) x.right(d, 5));
            a.add((long) x.right(d, 200));
        }
    }

    private static void holds(LetterDebts x, List<Long> a) {
        for (int p = 0; p < 6; p++) {
            a.add((long) x.hold(p, 7, 1, 2));
            a.add((long) x.hold(p, 999, 1, 1));
        }
        counts(x, a);
        for (int d = 0; d < 20; d++) {
            a.add((long) x.about(d, 3));
            a.add((long) x.set(d));
        }
        counts(x, a);
    }

    private static void moreDebts(LetterDebts x, List<Long> a) {
        for (int p = 0; p < 6; p++) {
            for (int by = 0; by < 3; by++) {
                a.add((long) x.debt(p, by));
                a.add((long) x.about(x.count(3) - 1, 1));
            }
        }
    }

    private static void letters(LetterDebts x, List<Long> a) {
        for (int i = 0; i < 30; i++) {
            for (int what = 0; what <= 3; what++) {
                a.add((long) x.post(i, what));
            }
        }
    }

    private static void moreLetters(LetterDebts x, List<Long> a) {
        for (int d = 0; d < 20; d++) {
            a.add((long) x.letter(d));
        }
        for (int i = 0; i < 9; i++) {
            a.add((long) x.day());
            a.add((long) x.hold(0, 40, 1, 1));
        }
        for (int i = 0; i < 30; i++) {
            a.add((long) x.post(i, 3));
        }
    }

    private static void line(LetterDebts x, List<Long> a) {
        a.add((long) x.call(3, 11));
        for (int i = 0; i < 45; i++) {
            a.add((long) x.day());
            a.add((long) x.count(5));
        }
        a.add((long) x.count(6));
    }

    private static void places(LetterDebts x, List<Long> a, int later) {
        Check.days(x, later);
        for (int p = 0; p < 6; p++) {
            a.add((long) x.place(p, 0, 55));
            a.add((long) x.place(p, 1, 66));
        }
    }

    private static void weights(LetterDebts x, List<Long> a) {
        for (int p = 0; p < 6; p++) {
            for (int kind = 0; kind < 8; kind++) {
                a.add((long) x.weight(kind, p, 1));
                a.add((long) x.weight(kind, p, 5));
            }
        }
        a.add(x.trace());
    }

    private static void image(LetterDebts x, List<Long> a, int image) {
        a.add((long) x.back(image));
        counts(x, a);
        for (int d = 0; d < 20; d++) {
            a.add((long) x.about(d, 2));
            a.add((long) x.about(d, 3));
        }
        for (int i = 0; i < 30; i++) {
            a.add((long) x.post(i, 3));
        }
        for (int i = 0; i < 20; i++) {
            a.add((long) x.day());
        }
    }
}
