import java.lang.reflect.InvocationTargetException;
import java.lang.reflect.Method;
import java.util.ArrayList;
import java.util.Arrays;
import java.util.HashMap;
import java.util.List;
import java.util.Map;
import java.util.regex.Matcher;
import java.util.regex.Pattern;

/**
 * A run of calls on one object, written as a script of statements with ; between them:
 *   house(80, 50) = 0      the answer that is due
 *   house(101, 0) ! BAD    refused: the answer that is due, and nothing has changed
 *   house(80, 50)          the answer is not looked at
 *   'come a+1' = 0         the tape is made to hold that, then text()
 */
final class Run {
    static final int MOST_CALLS = 512;
    // Stands for the answer that a call did not give; no test waits for it.
    private static final int THREW = 1234567891;
    private static final Pattern STATEMENT = Pattern.compile("\\s*(?:'([^']*)'|(\\w+)\\(([^)]*)\\))\\s*(?:([=!])\\s*(-?\\w+)\\s*)?(?:;|$)");
    private static final Map<String, Integer> NAMES = new HashMap<>();
    private static final Map<String, Method> METHODS = new HashMap<>();

    static {
        NAMES.put("BAD", Due.BAD);
        NAMES.put("NO", Due.NO);
        NAMES.put("FULL", Due.FULL);
        NAMES.put("NONE", Due.NONE);
        NAMES.put("NOTHING", Due.NOTHING);
        NAMES.put("KIND", Due.KIND);
        NAMES.put("INDEX", Due.INDEX);
        NAMES.put("SIZE", Due.SIZE);
        NAMES.put("MIN", Integer.MIN_VALUE);
        NAMES.put("MAX", Integer.MAX_VALUE);
        for (Method m : TwoBells.class.getMethods()) {
            if (m.getDeclaringClass() == TwoBells.class) {
                METHODS.put(m.getName(), m);
            }
        }
    }

    /** One call, ready to be made on any object. */
    record Call(String name, Object[] with) {
        int on(TwoBells x) {
            try {
                return (Integer) METHODS.get(name).invoke(x, with);
            } catch (InvocationTargetException e) {
                throw new IllegalStateException(shown(), e.getCause());
            } catch (IllegalAccessException e) {
                throw new IllegalStateException(shown(), e);
            }
        }

        String shown() {
            StringBuilder s = new StringBuilder(name).append('(');
            for (int i = 0; i < with.length; i++) {
                s.append(i == 0 ? "" : ", ").append(named((Integer) with[i]));
            }
            return s.append(')').toString();
        }
    }

    private final Edges edges;
    private final TwoBells x = new TwoBells();
    private final List<Call> made = new ArrayList<>();

    Run(Edges edges) {
        this.edges = edges;
    }

    static String named(int v) {
        for (Map.Entry<String, Integer> name : NAMES.entrySet()) {
            if (name.getValue() == v) {
                return name.getKey();
            }
        }
        return String.valueOf(v);
    }

    private static int number(String word) {
        Integer v = NAMES.get(word);
        return v == null ? Integer.parseInt(word) : v;
    }

    Run does(String script) {
        Matcher m = STATEMENT.matcher(script);
        int at = 0;
        while (at < script.length()) {
            if (!m.find(at) || m.start() != at) {
                throw new IllegalArgumentException("no statement: " + script.substring(at));
            }
            at = m.end();
            Call call = m.group(1) == null ? call(m.group(2), m.group(3)) : textCall(m.group(1));
            if ("!".equals(m.group(4))) {
                changesNothing(call);
            }
            int got = make(call);
            if (m.group(4) != null) {
                edges.is(m.group(1) == null ? call.shown() : "text of '" + m.group(1) + "'", number(m.group(5)), got);
            }
        }
        return this;
    }

    /** The same statement for each of several numbers, which stand where it says #. */
    Run each(String statement, int... numbers) {
        for (int v : numbers) {
            does(statement.replace("#", named(v)));
        }
        return this;
    }

    Run times(int n, String script) {
        for (int i = 0; i < n; i++) {
            does(script);
        }
        return this;
    }

    /** The answer to one call. */
    int asks(String call) {
        Matcher m = STATEMENT.matcher(call);
        if (!m.matches() || m.group(2) == null) {
            throw new IllegalArgumentException("no call: " + call);
        }
        return make(call(m.group(2), m.group(3)));
    }

    private static Call call(String name, String with) {
        String[] words = with.isBlank() ? new String[0] : with.trim().split("\\s*,\\s*");
        return new Call(name, Arrays.stream(words).map(Run::number).toArray());
    }

    /** Makes the tape hold a text; the call that is left to make is the one that reads it. */
    private Call textCall(String text) {
        puts(text);
        return call("text", "");
    }

    /** Makes the tape hold these bytes alone, without reading it. */
    Run puts(String text) {
        String padded = text + " ".repeat((12 - text.length() % 12) % 12);
        make(call("trim", "0"));
        for (int i = 0; i < padded.length(); i += 12) {
            make(new Call("feed", new Object[] {four(padded, i), four(padded, i + 4), four(padded, i + 8)}));
        }
        make(call("trim", String.valueOf(text.length())));
        return this;
    }

    private static int four(String s, int at) {
        return s.charAt(at) << 24 | s.charAt(at + 1) << 16 | s.charAt(at + 2) << 8 | s.charAt(at + 3);
    }

    private int make(Call call) {
        made.add(call);
        if (made.size() > MOST_CALLS) {
            edges.fails("the test makes more calls than the document allows");
        }
        try {
            return call.on(x);
        } catch (IllegalStateException thrown) {
            edges.fails(call.shown() + " threw " + thrown.getCause());
            return THREW;
        }
    }

    private TwoBells again() {
        TwoBells twin = new TwoBells();
        for (Call call : made) {
            call.on(twin);
        }
        return twin;
    }

    private void changesNothing(Call call) {
        for (Picture picture : Picture.values()) {
            // check lets nothing wait, whatever it answers.
            if (!call.name().equals("check") || picture != Picture.WAITING) {
                try {
                    looks(call, picture);
                } catch (RuntimeException thrown) {
                    edges.fails(call.shown() + " was to be refused; what is seen behind it threw " + thrown);
                }
            }
        }
    }

    /** Sets an object with that call beside one without it, and looks at one part of both. */
    private void looks(Call call, Picture picture) {
        TwoBells with = again();
        TwoBells without = again();
        call.on(with);
        // text uses the tape up, whatever it answers.
        if (call.name().equals("text")) {
            without.trim(0);
        }
        List<Integer> seen = picture.of(with);
        if (made.size() + 1 + seen.size() > MOST_CALLS) {
            edges.fails(call.shown() + " comes too late to be looked at");
        }
        if (!seen.equals(picture.of(without))) {
            edges.fails(call.shown() + " was refused, but changed something: " + picture);
        }
    }

    /** Something of everything, so that a refused call has much that it could change. */
    Run inTown() {
        does("house(80, 50); house(60, 100); house(100, 100); house(30, 30); door(0, 500); door(1, 900); door(2, 100)");
        does("wiring(); set(1, 2, 4); agree(1, 3, 1); thief(0, 0); thief(1, 1); thief(3, 1); patience(2); seed(7)");
        does("'come a*c/110'; 'may p+q'; sheet(0, 0, 5); mark(0, 1, 9); mark(0, 4, -2); sheet(1, 1, 4); mark(1, 0, NONE); "
            + "mark(1, 3, 70000)");
        does("sheet(3, 0, 0); lay(0, 1, 2); lay(1, 2, 1); lay(2, 3, -77); lay(4, 2, 0); nights(2); keep()");
        int taken = asks("nights(1)");
        int caught = asks("count(4)");
        does("back(); tell(" + taken + "); tell(" + caught + "); seed(-99); nights(3); set(0, 1, 501); change(3, 0, 90); wire(1, 0, NONE)");
        return puts("come a +");
    }
}
