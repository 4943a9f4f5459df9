import java.io.IOException;
import java.lang.reflect.InvocationTargetException;
import java.lang.reflect.Method;
import java.nio.file.Files;
import java.nio.file.Path;
import java.util.ArrayList;
import java.util.HashMap;
import java.util.List;
import java.util.Map;
import java.util.TreeMap;

/**
 * Plays calls that are told in a line, on one object: "group 0 2 = 0; relation 0 6 3 0; ring 0 0 = 3".
 *
 * Behind "=" stands the answer that is due. A refusal may stand there by its name; of a call that answers a long it
 * is then 4000000000000000000 less. Three calls more are told by several: text f 'a.b' (feeds, then text), tape 'a.b'
 * (feeds alone), fill sheet sort v v v (a SHEET with these items).
 */
final class Calls {
    private static final long LONG_REFUSAL = -4000000000000000000L;
    private static final int MOST_CALLS = 512;
    private static final int MOST_TOLD = 30;
    private static final Map<String, Long> NAMES = names();
    private static final Map<String, Method> FACE = face();

    private static final Map<String, Integer> ASKED = new TreeMap<>();
    private static String sentence = "";
    private static int wrong = 0;
    private static int asked = 0;

    final GroupsByRelations x = new GroupsByRelations();
    private int calls = 0;

    private static Map<String, Long> names() {
        Map<String, Long> names = new HashMap<>();
        names.put("BAD", -1L);
        names.put("FULL", -2L);
        names.put("NONE", -3L);
        names.put("STATE", -4L);
        names.put("MISSING", -11L);
        names.put("OUTSIDE", -12L);
        names.put("UNLIKE", -13L);
        names.put("BELOW", -14L);
        names.put("GREAT", -16L);
        return names;
    }

    private static Map<String, Method> face() {
        Map<String, Method> face = new HashMap<>();
        for (Method m : GroupsByRelations.class.getMethods()) {
            if (m.getDeclaringClass() == GroupsByRelations.class) {
                face.put(m.getName(), m);
            }
        }
        return face;
    }

    // ------------------------------------------------------------------ what a test says

    /** The words of the document that the next calls are about. */
    static void sentence(String words) {
        sentence = words;
        ASKED.putIfAbsent(words, 0);
    }

    static Calls play(String line) {
        return new Calls().then(line);
    }

    /** The line, with a number for each sign #. */
    static Calls playWith(int number, String line) {
        return new Calls().thenWith(number, line);
    }

    Calls thenWith(int number, String line) {
        return then(line.replace("#", "" + number));
    }

    Calls then(String line) {
        for (String call : line.split(";")) {
            String[] sides = call.split("=");
            if (sides.length > 1) {
                due(call.trim(), answer(sides[0].trim()), meant(sides[0].trim(), sides[1].trim()));
            } else if (!call.isBlank()) {
                answer(call.trim());
            }
        }
        return this;
    }

    static void due(String call, long got, long want) {
        asked++;
        ASKED.merge(sentence, 1, Integer::sum);
        if (got != want) {
            wrong++;
            if (wrong <= MOST_TOLD) {
                System.out.println("\"" + sentence + "\": " + call + " answered " + got + ", due is " + want);
            }
        }
    }

    static void must(boolean holds, String what) {
        due(what, holds ? 1 : 0, 1);
    }

    /** Prints what was wrong, and ends with 1 if something was. Each sentence must stand in the document. */
    static void end() throws IOException {
        Path document = Path.of("../shared/DOC.md");
        String words = Files.exists(document) ? Files.readString(document) : null;
        for (Map.Entry<String, Integer> each : ASKED.entrySet()) {
            if (each.getValue() == 0) {
                wrong++;
                System.out.println("nothing is asked of \"" + each.getKey() + "\"");
            }
            if (words != null && !words.contains(each.getKey())) {
                wrong++;
                System.out.println("the document does not say \"" + each.getKey() + "\"");
            }
        }
        System.out.println(ASKED.size() + " sentences, " + asked + " answers, " + wrong + " of them not as due");
        if (wrong > 0) {
            System.exit(1);
        }
    }

    // ------------------------------------------------------------------ how it is done

    private long answer(String call) {
        int quote = call.indexOf('\'');
        String text = quote < 0 ? "" : call.substring(quote + 1, call.lastIndexOf('\''));
        String[] words = (quote < 0 ? call : call.substring(0, quote)).trim().split("\\s+");
        switch (words[0]) {
            case "tape":
                return feed(text);
            case "fill":
                return fill(words);
            default:
                if (quote >= 0) {
                    feed(text);
                }
                return ask(words);
        }
    }

    private long feed(String text) {
        long count = 0;
        for (int i = 0; i < text.length(); i += 8) {
            int n = Math.min(8, text.length() - i);
            long eight = 0;
            for (int j = 0; j < n; j++) {
                eight |= (long) text.charAt(i + j) << (8 * j);
            }
            count = ask("feed", "" + eight, "" + n);
        }
        return count;
    }

    private long fill(String[] words) {
        long made = ask("sheet", words[1], words[2], "" + (words.length - 3));
        for (int i = 3; i < words.length; i++) {
            ask("put", words[1], "" + (i - 3), words[i]);
        }
        return made;
    }

    private long ask(String... words) {
        calls++;
        if (calls > MOST_CALLS) {
            throw new IllegalStateException("more than 512 calls of one object");
        }
        Method m = FACE.get(words[0]);
        if (m == null || m.getParameterCount() != words.length - 1) {
            throw new IllegalStateException("no such call: " + String.join(" ", words));
        }
        List<Object> arguments = new ArrayList<>();
        for (int i = 1; i < words.length; i++) {
            boolean isLong = m.getParameterTypes()[i - 1] == long.class;
            arguments.add(isLong ? (Object) number(words[i]) : (Object) Math.toIntExact(number(words[i])));
        }
        try {
            return ((Number) m.invoke(x, arguments.toArray())).longValue();
        } catch (IllegalAccessException | InvocationTargetException e) {
            throw new IllegalStateException(String.join(" ", words), e);
        }
    }

    private static long number(String word) {
        switch (word) {
            case "MIN":
                return Integer.MIN_VALUE;
            case "MAX":
                return Integer.MAX_VALUE;
            default:
                return Long.parseLong(word);
        }
    }

    private static long meant(String call, String word) {
        Long refusal = NAMES.get(word);
        if (refusal == null) {
            return number(word);
        }
        Method m = FACE.get(call.split("\\s+")[0]);
        return m != null && m.getReturnType() == long.class ? LONG_REFUSAL + refusal : refusal;
    }
}
