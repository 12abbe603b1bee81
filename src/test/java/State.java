import java.util.ArrayList;
import java.util.List;
import java.util.function.Supplier;
import java.util.function.ToLongFunction;

/** All that can be asked of an object behind a run of calls; each part behind a run anew, so that no object has 512 calls. */
final class State {
    private record Question(String call, ToLongFunction<ObjectLinker> ask) {
    }

    /** Answers that no call gives. */
    private static final long MISSING = -1001;
    private static final long STATE = -1002;
    private static final long ARGUMENT = -1003;
    private static final long UNSUPPORTED = -1004;
    private static final long OTHER = -1005;

    private static final List<List<Question>> PARTS = parts();

    private State() {
    }

    static void dueSame(String what, long[] want, Supplier<ObjectLinker> run) {
        long[] got = of(run);
        for (int i = 0; i < want.length; i++) {
            if (got[i] != want[i]) {
                Expect.report("behind " + what + " " + question(i) + " answers " + got[i] + ", due is " + want[i]);
                return;
            }
        }
        Expect.due("answers behind " + what, want.length, got.length);
    }

    /** A call that throws changes nothing. */
    static void dueUnchanged(String call, Class<? extends RuntimeException> thrown, Supplier<ObjectLinker> run,
            ToLongFunction<ObjectLinker> refused) {
        dueSame(call, of(run), () -> {
            ObjectLinker x = run.get();
            Expect.dueThrow(call, thrown, () -> refused.applyAsLong(x));
            return x;
        });
    }

    /** A run that leaves two objects, a file that was written, and a link; nothing fed. */
    static ObjectLinker busy() {
        ObjectLinker x = new ObjectLinker();
        Expect.feedAll(x, new Draft(5, 4, 3).symbol("start", 1, 2, 1).symbol("e", 0, 0, 1).relocation(0, 1, 1, 1).file(1));
        x.load(1);
        Expect.feedAll(x, new Draft(2, 3, 0).symbol("e", 2, 1, 1).symbol("c", 4, 7, 1).relocation(1, 0, 8, 0).file(0));
        x.load(0);
        x.write(0, 2);
        x.link(1000);
        return x;
    }

    /** The same, and a file of format 0 fed. */
    static ObjectLinker busyAndFed() {
        ObjectLinker x = busy();
        Expect.feedAll(x, new Draft(3, 1, 9).symbol("fed", 1, 3, 0).relocation(0, 1, 0, 1).file(0));
        return x;
    }

    static long[] of(Supplier<ObjectLinker> run) {
        int count = PARTS.stream().mapToInt(List::size).sum();
        long[] answers = new long[count];
        int n = 0;
        for (List<Question> part : PARTS) {
            ObjectLinker x = run.get();
            for (Question question : part) {
                answers[n] = answer(x, question);
                n++;
            }
        }
        return answers;
    }

    private static String question(int i) {
        int before = 0;
        for (List<Question> part : PARTS) {
            if (i < before + part.size()) {
                return part.get(i - before).call;
            }
            before += part.size();
        }
        return "nothing";
    }

    private static long answer(ObjectLinker x, Question question) {
        try {
            return question.ask.applyAsLong(x);
        } catch (java.util.NoSuchElementException e) {
            return MISSING;
        } catch (IllegalStateException e) {
            return STATE;
        } catch (IllegalArgumentException e) {
            return ARGUMENT;
        } catch (UnsupportedOperationException e) {
            return UNSUPPORTED;
        } catch (RuntimeException e) {
            return OTHER;
        }
    }

    private static List<List<Question>> parts() {
        List<List<Question>> parts = new ArrayList<>();
        for (int k = 0; k < 3; k++) {
            parts.add(factsOf(k));
        }
        parts.add(writtenAndAddresses());
        for (int from = 0; from <= 900; from += 250) {
            parts.add(imageFrom(from));
        }
        parts.add(List.of(new Question("the room behind what is fed", State::roomBehindFed)));
        for (int format = 0; format < 3; format++) {
            parts.add(whatIsFed(format));
        }
        parts.add(writes());
        parts.add(List.of(new Question("link(2000)", x -> x.link(2000)), new Question("image(0)", x -> x.image(0))));
        return parts;
    }

    private static List<Question> factsOf(int k) {
        List<Question> questions = new ArrayList<>();
        for (int what = 0; what < 185; what += what == 4 ? 96 : 1) {
            int w = what;
            questions.add(new Question("object(" + k + ", " + w + ")", x -> x.object(k, w)));
        }
        for (int n = 0; n < 80; n++) {
            int i = n / 10;
            int what = n % 10;
            questions.add(new Question("symbol(" + k + ", " + i + ", " + what + ")", x -> x.symbol(k, i, what)));
        }
        for (int n = 0; n < 50; n++) {
            int i = n / 5;
            int what = n % 5;
            questions.add(new Question("relocation(" + k + ", " + i + ", " + what + ")", x -> x.relocation(k, i, what)));
        }
        return questions;
    }

    private static List<Question> writtenAndAddresses() {
        List<Question> questions = new ArrayList<>();
        for (int n = -1; n <= 160; n++) {
            int i = n;
            questions.add(new Question("written(" + i + ")", x -> x.written(i)));
        }
        for (int n = 0; n < 27; n++) {
            int k = n / 9;
            int i = n % 9;
            questions.add(new Question("address(" + k + ", " + i + ")", x -> x.address(k, i)));
        }
        return questions;
    }

    private static List<Question> imageFrom(int from) {
        List<Question> questions = new ArrayList<>();
        for (int n = 0; n < 250; n++) {
            int i = from + n;
            questions.add(new Question("image(" + i + ")", x -> x.image(i)));
        }
        return questions;
    }

    private static List<Question> whatIsFed(int format) {
        List<Question> questions = new ArrayList<>();
        questions.add(new Question("load(" + format + ") behind clear()", x -> {
            x.clear();
            return x.load(format);
        }));
        questions.addAll(factsOf(0));
        return questions;
    }

    private static List<Question> writes() {
        List<Question> questions = new ArrayList<>();
        for (int n = 0; n < 9; n++) {
            int k = n / 3;
            int format = n % 3;
            questions.add(new Question("write(" + k + ", " + format + ")", x -> x.write(k, format)));
        }
        questions.add(new Question("again()", ObjectLinker::again));
        return questions;
    }

    private static long roomBehindFed(ObjectLinker x) {
        long room = 0;
        while (room < 200 && x.feed(0, 1)) {
            room++;
        }
        return room;
    }
}
