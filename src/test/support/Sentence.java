import java.lang.reflect.InvocationTargetException;
import java.lang.reflect.Method;
import java.lang.reflect.Modifier;
import java.util.ArrayList;
import java.util.HashMap;
import java.util.List;
import java.util.Map;
import java.util.Set;

/**
 * A sentence of the document that names a boundary case, with a run of calls on a new object that would
 * be answered otherwise if the sentence were broken. Calls are written as texts, such as "add 0 2 3 MAX".
 *
 * Of each call that is refused or only looks, it is also tried that it changed nothing that a later call
 * shows: two objects are made that went through the same, one of them through that call too, and both are
 * asked for all that can be asked for.
 */
final class Sentence {
    private static final Set<String> LOOKS = Set.of("taken", "worth", "told", "dot", "has", "letter", "met", "apart",
        "needs", "drawn", "chance", "tells", "count", "item");
    /** What an object promises ends behind so many calls. */
    private static final int CALLS = 512;
    private static final Map<String, Method> FACE = face();
    private static final Map<String, Call> READ = new HashMap<>();
    private static final List<List<Call>> QUESTIONS = questions();

    private static int sentences;
    private static int tried;
    private static int wrong;

    private final String name;
    private final JoinedStores x = new JoinedStores();
    private int calls;
    /** The calls so far that may have changed the object. */
    private final List<Call> done = new ArrayList<>();
    private List<Long> answersUntouched;

    private static final class Call {
        final String text;
        final Method method;
        final Object[] numbers;

        Call(String text) {
            this.text = text;
            String[] words = text.split(" ");
            method = FACE.get(words[0]);
            if (method == null || method.getParameterCount() != words.length - 1) {
                throw new IllegalArgumentException("no such call: " + text);
            }
            numbers = new Object[words.length - 1];
            for (int i = 0; i < numbers.length; i++) {
                long number = number(words[i + 1]);
                numbers[i] = method.getParameterTypes()[i] == long.class ? (Object) number : (Object) Math.toIntExact(number);
            }
        }

        private static long number(String word) {
            return word.equals("MIN") ? Integer.MIN_VALUE : word.equals("MAX") ? Integer.MAX_VALUE : Long.parseLong(word);
        }

        long answer(JoinedStores x) {
            try {
                return ((Number) method.invoke(x, numbers)).longValue();
            } catch (InvocationTargetException e) {
                throw new IllegalStateException(text + " threw " + e.getCause(), e);
            } catch (IllegalAccessException e) {
                throw new IllegalStateException(e);
            }
        }

        boolean looks() {
            return LOOKS.contains(method.getName());
        }
    }

    Sentence(int promise, String words) {
        name = "promise " + promise + ": " + words;
        sentences++;
    }

    /** Calls that lead up to what is tried; none of them may be refused. */
    Sentence after(String... texts) {
        for (String text : texts) {
            Call call = read(text);
            long got = answer(call);
            if (got < 0) {
                fail(text + " answered " + got + " ahead of what is tried");
            }
            keep(call);
        }
        return this;
    }

    Sentence times(int n, String text) {
        for (int i = 0; i < n; i++) {
            after(text);
        }
        return this;
    }

    /** A call that may change the object answers a number below 0 only if it is refused. */
    Sentence due(long want, String text) {
        Call call = read(text);
        long got = answer(call);
        tried++;
        if (got != want) {
            fail(text + " answered " + got + ", due is " + want);
        }
        if (want < 0 || call.looks()) {
            changesNothing(call);
        } else {
            keep(call);
        }
        return this;
    }

    /** Where no calls are left to ask what it changed. */
    Sentence last(long want, String text) {
        long got = answer(read(text));
        tried++;
        if (got != want || calls != CALLS) {
            fail(text + ", the call " + calls + ", answered " + got + ", due is " + want);
        }
        return this;
    }

    /** The same for each of the numbers in the place of "_". */
    Sentence each(long want, String text, int... numbers) {
        for (int number : numbers) {
            due(want, text.replace("_", Integer.toString(number)));
        }
        return this;
    }

    Sentence same(long want, long got) {
        tried++;
        if (got != want) {
            fail("it is " + got + ", due is " + want);
        }
        return this;
    }

    static void end() {
        System.out.println(sentences + " sentences, " + tried + " answers tried, " + wrong + " wrong");
        if (wrong != 0 || sentences == 0) {
            System.exit(1);
        }
    }

    private long answer(Call call) {
        calls++;
        if (calls > CALLS) {
            fail("more calls than an object promises");
        }
        return call.answer(x);
    }

    private void keep(Call call) {
        done.add(call);
        answersUntouched = null;
    }

    private void fail(String what) {
        wrong++;
        System.out.println(name + ": " + what);
    }

    private void changesNothing(Call call) {
        if (answersUntouched == null) {
            answersUntouched = answersToAll(null);
        }
        List<Long> answers = answersToAll(call);
        int place = 0;
        for (List<Call> part : QUESTIONS) {
            for (Call question : part) {
                if (!answers.get(place).equals(answersUntouched.get(place))) {
                    fail(call.text + " changed what " + question.text + " answers (asked " + (part.indexOf(question) + 1)
                        + ". after " + part.get(0).text + "): " + answersUntouched.get(place) + " before, "
                        + answers.get(place) + " after");
                    return;
                }
                place++;
            }
        }
    }

    /** Each part is asked of an object of its own, as some of the questions change it, and calls are counted. */
    private List<Long> answersToAll(Call touch) {
        List<Long> answers = new ArrayList<>();
        for (List<Call> part : QUESTIONS) {
            JoinedStores other = new JoinedStores();
            for (Call call : done) {
                call.answer(other);
            }
            if (touch != null) {
                touch.answer(other);
            }
            if (done.size() + 1 + part.size() > CALLS) {
                fail("more questions than an object promises to answer");
            }
            for (Call question : part) {
                answers.add(question.answer(other));
            }
        }
        return answers;
    }

    private static Call read(String text) {
        return READ.computeIfAbsent(text, Call::new);
    }

    private static Map<String, Method> face() {
        Map<String, Method> face = new HashMap<>();
        for (Method method : JoinedStores.class.getDeclaredMethods()) {
            if (Modifier.isPublic(method.getModifiers())) {
                face.put(method.getName(), method);
            }
        }
        return face;
    }

    // ---- all that can be asked for

    private static List<List<Call>> questions() {
        List<List<String>> parts = List.of(
            both(stores(), looked()),
            dots(0), dots(1), dots(2), items(),
            both(parcels(), stores()), both(messages(), stores()),
            both(List.of("back"), stores(), looked()),
            both(List.of("back"), dots(0)), both(List.of("back"), dots(1)), both(List.of("back"), dots(2)),
            both(List.of("back"), parcels(), stores()), both(List.of("back"), messages(), stores()));
        List<List<Call>> questions = new ArrayList<>();
        for (List<String> part : parts) {
            List<Call> calls = new ArrayList<>();
            for (String text : part) {
                calls.add(read(text));
            }
            questions.add(calls);
        }
        return questions;
    }

    @SafeVarargs
    private static List<String> both(List<String>... parts) {
        List<String> texts = new ArrayList<>();
        for (List<String> part : parts) {
            texts.addAll(part);
        }
        return texts;
    }

    private static List<String> stores() {
        List<String> texts = new ArrayList<>();
        for (int replica = 0; replica < 4; replica++) {
            for (int of = 0; of < 4; of++) {
                texts.add("told " + replica + " " + of + " 0");
                texts.add("told " + replica + " " + of + " 1");
                for (int what = 10; what < 14; what++) {
                    texts.add("told " + replica + " " + of + " " + what);
                }
            }
        }
        return texts;
    }

    private static List<String> looked() {
        List<String> texts = new ArrayList<>();
        for (int i = 0; i < 12; i++) {
            String object = " " + i / 4 + " " + i % 4;
            texts.add("taken" + object + " 0");
            texts.add("met" + object);
            for (int replica = 0; replica < 4; replica++) {
                texts.add("worth " + replica + object);
            }
        }
        for (int what = 0; what < 5; what++) {
            texts.add("count " + what);
        }
        for (int i = 0; i < 24; i++) {
            texts.add("letter " + i / 4 + " " + i % 4);
        }
        return texts;
    }

    private static List<String> dots(int what) {
        List<String> texts = new ArrayList<>();
        for (int i = 0; i < 124; i++) {
            texts.add("dot " + i / 31 + " " + i % 31 + " " + what);
        }
        return texts;
    }

    private static List<String> items() {
        List<String> texts = new ArrayList<>();
        for (int sheet = 0; sheet < 4; sheet++) {
            for (int i = 0; i <= 40; i++) {
                texts.add("item " + sheet + " " + i);
            }
            texts.add("copy " + sheet + " 0 0 0 0");
        }
        return texts;
    }

    private static List<String> parcels() {
        List<String> texts = new ArrayList<>();
        for (int i = 0; i < 6; i++) {
            texts.add("lose 0");
        }
        for (int from = 0; from < 4; from++) {
            for (int to = 0; to < 4; to++) {
                if (from != to) {
                    texts.addAll(List.of("send " + from + " " + to + " 1", "letter 0 2", "letter 0 3", "come 0"));
                }
            }
        }
        for (int replica = 0; replica < 4; replica++) {
            texts.add("add " + replica + " 0 0 0");
        }
        return texts;
    }

    private static List<String> messages() {
        List<String> texts = new ArrayList<>();
        for (int i = 0; i < 6; i++) {
            texts.addAll(List.of("letter 0 0", "letter 0 1", "letter 0 2", "letter 0 3", "come 0"));
        }
        return texts;
    }
}
