import java.lang.reflect.InvocationTargetException;
import java.lang.reflect.Method;
import java.lang.reflect.Modifier;
import java.util.Arrays;
import java.util.Comparator;
import java.util.Random;

/** No call throws, whatever its arguments and whatever came before. */
public final class NothingThrows {
    private static final int[] NUMBERS = {0, 0, 0, 0, 1, 1, 1, 2, 2, 3, 4, 5, 6, 7, 8, 9, 11, 12, 40, 59, 60, 100,
        255, 256, 399, 4000, 65536, -1, -2, Integer.MAX_VALUE, Integer.MIN_VALUE};
    private static final String[] PIECES = {"enum E { A = 1; B = 2; }", "record R { R r @ 1; many R l @ 2; map<int, R> m @ 3; text t @ 4; E e @ 5; }",
        "service S { cell c; call k (R) R @ 1 { c = in.e / c + 1; out.e = c; } }", "R {r: {}}", "R {l: [{}, {t: \"x\"}], m: <1: {}>}", "r.l[0].m[3].t = \"y\"",
        "r.r", "l[1]", "m[1]", "e = 4", "record", "{", "}", "[", "<", "\"", "\\", "1", "-", "@", "=", ";", "#", "in", "99999999999999999999"};

    public static void main(String[] args) throws IllegalAccessException {
        Method[] face = Arrays.stream(WireHouse.class.getDeclaredMethods())
            .filter(m -> Modifier.isPublic(m.getModifiers()))
            .sorted(Comparator.comparing(Method::getName)).toArray(Method[]::new);
        for (int seed = 0; seed < 300; seed++) {
            Random random = new Random(seed);
            Check c = new Check();
            for (int call = 0; call < 512; call++) {
                if (random.nextInt(4) == 0) {
                    text(c, random);
                }
                Method m = face[random.nextInt(face.length)];
                Object[] given = new Object[m.getParameterCount()];
                for (int i = 0; i < given.length; i++) {
                    given[i] = NUMBERS[random.nextInt(NUMBERS.length)];
                }
                try {
                    m.invoke(c.house, given);
                } catch (InvocationTargetException e) {
                    Check.due("seed " + seed + ": " + m.getName() + Arrays.toString(given), e.getCause().toString(), "an answer");
                    break;
                }
            }
        }
        Check.end();
    }

    private static void text(Check c, Random random) {
        StringBuilder text = new StringBuilder();
        int pieces = random.nextInt(3) == 0 ? 3 : 1;
        for (int i = 0; i < pieces; i++) {
            text.append(PIECES[pieces == 3 && random.nextBoolean() ? i : random.nextInt(PIECES.length)]).append(' ');
        }
        c.tape(text.toString());
    }
}
