import java.io.IOException;
import java.lang.reflect.InvocationTargetException;
import java.lang.reflect.Method;
import java.lang.reflect.Modifier;
import java.nio.file.Files;
import java.nio.file.Path;
import java.util.HashMap;
import java.util.Map;

/**
 * Runs of calls with the answers that tools/model gives to them: a second program, written from the
 * document alone. A line is "new", or a call and its answer: "told 3 2 = 17".
 */
public final class RunsOfTheModel {
    private static final String RUNS = "src/test/data/runs.txt";

    public static void main(String[] args) throws IOException, IllegalAccessException {
        Map<String, Method> face = new HashMap<>();
        for (Method m : WireHouse.class.getDeclaredMethods()) {
            if (Modifier.isPublic(m.getModifiers())) {
                face.put(m.getName(), m);
            }
        }
        WireHouse house = new WireHouse();
        int run = 0;
        int call = 0;
        boolean wrong = false;
        for (String line : Files.readAllLines(Path.of(args.length > 0 ? args[0] : RUNS))) {
            call++;
            if (line.equals("new")) {
                house = new WireHouse();
                run++;
                call = 0;
                wrong = false;
            } else if (!wrong) {
                // what comes behind a wrong answer tells nothing
                String[] sides = line.split(" = ");
                String got = answer(face, house, sides[0].split(" "));
                Check.due("run " + run + ", call " + call + ": " + sides[0], got, sides[1]);
                wrong = !got.equals(sides[1]);
            }
        }
        Check.due("runs were found", run > 0 ? 1 : 0, 1);
        Check.end();
    }

    private static String answer(Map<String, Method> face, WireHouse house, String[] words) throws IllegalAccessException {
        Object[] given = new Object[words.length - 1];
        for (int i = 1; i < words.length; i++) {
            given[i - 1] = Integer.parseInt(words[i]);
        }
        try {
            return String.valueOf(face.get(words[0]).invoke(house, given));
        } catch (InvocationTargetException e) {
            return e.getCause().toString();
        }
    }
}
