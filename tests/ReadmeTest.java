import java.io.IOException;
import java.lang.reflect.InvocationTargetException;
import java.lang.reflect.Method;
import java.lang.reflect.Modifier;
import java.nio.file.Files;
import java.nio.file.Path;
import java.util.ArrayList;
import java.util.List;
import java.util.Set;
import java.util.TreeMap;
import java.util.TreeSet;
import java.util.regex.Matcher;
import java.util.regex.Pattern;

/**
 * What README.md says of the calls is what the class does: its example is run, and each call that it tells of is
 * made in several houses with the last numbers that its ranges take and the first ones that they don't.
 */
public final class ReadmeTest extends Checks {
    private static final Pattern HEAD = Pattern.compile("- `((?:int|long|boolean|float|double) (\\w+)\\((.*?)\\))`:.*");
    private static final Pattern RANGE = Pattern.compile("`(\\w+)` (-?\\d+) to (-?\\d+)");
    private static final Pattern EXCEPTION = Pattern.compile("`(\\w+Exception)`");
    private static final Pattern EXAMPLE = Pattern.compile("x\\.(\\w+)\\((.*?)\\); +// (throws \\w+|-?\\w+)(?:: .*)?");
    private static final Pattern KIND = Pattern.compile("- ([1-4]) (?:HELLO|REPLY|COOKIE|DATA): (.*)");
    private static final int MOST_LISTED = 10;

    /** A call as the page tells it. */
    private static final class Told {
        final Method method;
        final String[] names;
        final TreeMap<String, int[]> ranges = new TreeMap<>();
        final Set<String> exceptions = new TreeSet<>();

        Told(Method method, String[] names, String text) {
            this.method = method;
            this.names = names;
            for (Matcher m = RANGE.matcher(text); m.find();) {
                ranges.put(m.group(1), new int[] {Integer.parseInt(m.group(2)), Integer.parseInt(m.group(3))});
            }
            for (Matcher m = EXCEPTION.matcher(text); m.find();) {
                exceptions.add(m.group(1));
            }
        }

        boolean isInside(Object[] values) {
            for (int i = 0; i < names.length; i++) {
                int[] range = ranges.get(names[i]);
                if (range != null && ((int) values[i] < range[0] || (int) values[i] > range[1])) {
                    return false;
                }
            }
            return true;
        }
    }

    // ---------------------------------------------------------------- reading the page

    private static List<String> page() throws IOException {
        return Files.readAllLines(Path.of("README.md"));
    }

    /** The item that begins at that line, with the lines that go on with it. */
    private static String item(List<String> page, int first) {
        StringBuilder text = new StringBuilder(page.get(first));
        for (int i = first + 1; i < page.size() && page.get(i).startsWith("  "); i++) {
            text.append(' ').append(page.get(i).strip());
        }
        return text.toString();
    }

    private static Method methodNamed(String name) {
        for (Method m : Burrowline.class.getDeclaredMethods()) {
            if (m.getName().equals(name) && Modifier.isPublic(m.getModifiers())) {
                return m;
            }
        }
        throw new IllegalArgumentException("the page tells of a call that there is not: " + name);
    }

    private static List<Told> calls() throws IOException {
        String code = Files.readString(Path.of("src/main/java/Burrowline.java"));
        List<String> page = page();
        List<Told> calls = new ArrayList<>();
        for (int i = 0; i < page.size(); i++) {
            Matcher m = HEAD.matcher(page.get(i));
            if (m.matches()) {
                is("the class has the head " + m.group(1), code.contains("    public " + m.group(1) + " {\n"));
                String[] names = m.group(3).isEmpty() ? new String[0] : m.group(3).split(", ");
                for (int n = 0; n < names.length; n++) {
                    names[n] = names[n].replaceAll(".* ", "");
                }
                calls.add(new Told(methodNamed(m.group(2)), names, item(page, i)));
            }
        }
        return calls;
    }

    private static void eachCallIsTold() throws IOException {
        Set<String> told = new TreeSet<>();
        for (Told call : calls()) {
            is("is told once: " + call.method.getName(), told.add(call.method.getName()));
        }
        for (Method m : Burrowline.class.getDeclaredMethods()) {
            is("is told: " + m.getName(), !Modifier.isPublic(m.getModifiers()) || told.contains(m.getName()));
        }
        String all = String.join("\n", page());
        is("NONE is told", all.contains("`Burrowline.NONE` is " + Burrowline.NONE + ":"));
        is("the command is told, and there", all.contains("\n.ci/run\n") && Files.isExecutable(Path.of(".ci/run")));
        for (String file : new java.io.File("tests").list()) {
            is("is told: " + file, !file.endsWith(".java") || all.contains("`tests/" + file + "`"));
        }
    }

    // ---------------------------------------------------------------- making calls

    /** What a call answers, as a text, or which exception it throws. */
    private static String answer(Method method, Burrowline x, Object[] values) {
        try {
            return String.valueOf(method.invoke(x, values));
        } catch (InvocationTargetException e) {
            return "throws " + e.getCause().getClass().getSimpleName();
        } catch (IllegalAccessException e) {
            return "is not public";
        }
    }

    private static Object[] values(Method method, String told) {
        String[] texts = told.isEmpty() ? new String[0] : told.split(", ");
        Object[] values = new Object[texts.length];
        for (int i = 0; i < texts.length; i++) {
            boolean isFlag = method.getParameterTypes()[i] == boolean.class;
            values[i] = isFlag ? (Object) Boolean.valueOf(texts[i]) : (Object) Integer.valueOf(texts[i]);
        }
        return values;
    }

    private static void example() throws IOException {
        Burrowline x = new Burrowline();
        int run = 0;
        for (String line : page()) {
            if (line.startsWith("x.")) {
                Matcher m = EXAMPLE.matcher(line);
                if (m.matches()) {
                    Method method = methodNamed(m.group(1));
                    String got = answer(method, x, values(method, m.group(2)));
                    is(line + " answered " + got, got.equals(m.group(3)));
                    run++;
                } else {
                    wrong("a line of the example that tells no answer: " + line);
                }
            }
        }
        is("the example is there", run > 10);
    }

    /** The end of time is far beyond 512 calls, but these calls go on. */
    private static Burrowline late() {
        Burrowline x = new Burrowline();
        while (x.now() < 499999980) {
            x.pass(60);
        }
        return x;
    }

    private static final int HOUSES = 6;

    private static Burrowline house(int number) {
        switch (number) {
            case 0:
                return new Burrowline();
            case 1:
                return busy();
            case 2:
                return fullNet();
            case 3:
                return fullTable();
            case 4:
                return fewRoutes();
            default:
                return allKinds();
        }
    }

    private static Burrowline fullNet() {
        Burrowline x = busy();
        fill(x, 60);
        return x;
    }

    private static Burrowline fullTable() {
        Burrowline x = routed();
        for (int i = 1; i <= 7; i++) {
            same("ROUTES", x.allow(1, 0, i, 8), i + 1);
        }
        return x;
    }

    private static Burrowline fewRoutes() {
        Burrowline x = busy();
        x.allow(0, 1, 0, 0);
        x.allow(0, 1, 255, 8);
        return x;
    }

    /** A letter of each kind lies in the net, and the end 0 has been met twice. */
    private static Burrowline allKinds() {
        Burrowline x = met(2);
        x.greet(0, 1);
        for (int i = 0; i < 3; i++) {
            x.deliver(0);
        }
        x.pass(9);
        x.greet(0, 1);
        x.deliver(0);
        x.load(2, true);
        x.greet(1, 2);
        x.deliver(1);
        x.greet(0, 2);
        x.keep(0, 1);
        return x;
    }

    /** The numbers to try: those at the two ends of a range and beside them, or all of a short one. */
    private static List<Object> tried(Told call, int parameter, Burrowline x) {
        List<Object> tried = new ArrayList<>();
        if (call.method.getParameterTypes()[parameter] == boolean.class) {
            tried.add(true);
            tried.add(false);
            return tried;
        }
        int[] range = call.ranges.get(call.names[parameter]);
        int least = range == null ? 0 : range[0];
        int most = range == null ? 5 : range[1];
        if (call.names[parameter].equals("letter")) {
            most = x.letters() - 1;
        }
        for (long v = least - 1L; v <= most + 1L; v++) {
            boolean isAtAnEnd = v <= least || v >= most;
            if (isAtAnEnd || most - least <= MOST_LISTED || v == (least + most) / 2 || v == (least + most) / 2 + 1) {
                tried.add((int) v);
            }
        }
        return tried;
    }

    // ---------------------------------------------------------------- ranges and exceptions

    /** All that the tries of a call showed. */
    private static final class Seen {
        final Set<String> exceptions = new TreeSet<>();
        final Set<String> taken = new TreeSet<>();
    }

    private static void tryAll(Told call, int house, Object[] values, int next, Seen seen) {
        if (next < values.length) {
            for (Object value : tried(call, next, house(house))) {
                values[next] = value;
                tryAll(call, house, values, next + 1, seen);
            }
            return;
        }
        String got = answer(call.method, house(house), values);
        String made = call.method.getName() + List.of(values);
        if (got.startsWith("throws ")) {
            seen.exceptions.add(got.substring("throws ".length()));
        } else {
            is(made + " is taken, beside its range", call.isInside(values));
            for (int i = 0; i < values.length; i++) {
                seen.taken.add(call.names[i] + " " + values[i]);
            }
        }
    }

    private static void check(Told call) {
        Seen seen = new Seen();
        for (int house = 0; house < HOUSES; house++) {
            tryAll(call, house, new Object[call.names.length], 0, seen);
        }
        String name = call.method.getName();
        if (name.equals("pass")) {
            String got = answer(call.method, late(), new Object[] {60});
            seen.exceptions.add(got.replace("throws ", ""));
        }
        is(name + " throws " + seen.exceptions + ", told are " + call.exceptions,
            seen.exceptions.equals(call.exceptions));
        for (String parameter : call.names) {
            int[] range = call.ranges.get(parameter);
            if (range != null) {
                is(name + " takes " + parameter + " " + range[0], seen.taken.contains(parameter + " " + range[0]));
                is(name + " takes " + parameter + " " + range[1], seen.taken.contains(parameter + " " + range[1]));
            }
        }
        Set<String> told = call.ranges.keySet();
        is(name + " has no such parameters as " + told, Set.of(call.names).containsAll(told));
    }

    private static void rangesAndExceptions() throws IOException {
        for (Told call : calls()) {
            check(call);
        }
    }

    /** The FIELDS in brackets, by kind. */
    private static void turnedFields() throws IOException {
        Set<Integer> kinds = new TreeSet<>();
        for (String line : page()) {
            Matcher m = KIND.matcher(line);
            if (m.matches()) {
                String[] fields = m.group(2).split(", ");
                for (int field = 0; field < 6; field++) {
                    boolean isTold = field < fields.length && fields[field].startsWith("[");
                    turns(Integer.parseInt(m.group(1)), field, isTold);
                }
                kinds.add(Integer.parseInt(m.group(1)));
            }
        }
        is("all four kinds", kinds.size() == 4);
    }

    private static void turns(int kind, int field, boolean isTold) {
        Burrowline x = allKinds();
        boolean isTried = false;
        for (int letter = 0; letter < x.letters(); letter++) {
            if (x.letter(letter, 2) == kind && !isTried) {
                boolean isDone = !answer(methodNamed("turn"), x, new Object[] {letter, field, 1}).startsWith("throws");
                is("the FIELD " + field + " of the kind " + kind, isDone == isTold);
                isTried = true;
            }
        }
        is("a letter of the kind " + kind, isTried);
    }

    public static void main(String[] args) throws IOException {
        eachCallIsTold();
        example();
        rangesAndExceptions();
        turnedFields();
        finish();
    }
}
