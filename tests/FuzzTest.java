import java.lang.reflect.Method;
import java.lang.reflect.Modifier;
import java.util.Arrays;
import java.util.Comparator;
import java.util.Random;

/** No call ever throws, whatever its numbers are and whatever came before it. */
public final class FuzzTest {
    private static final int RUNS = 1500;
    private static final int[] EDGES = {Integer.MIN_VALUE, Integer.MIN_VALUE + 1, -65537, -256, -6, -2, -1, 0, 1, 2, 3, 4,
        5, 6, 7, 9, 10, 20, 21, 40, 41, 99, 100, 160, 200, 255, 256, 999, 1000, 4095, 4096, 65536,
        Integer.MAX_VALUE - 1, Integer.MAX_VALUE};
    private static final String LETTERS = "may fee joy 1 - kept or and not ( ( ) ; + * < = from to near spring house 12345 ";

    public static void main(String[] args) throws Exception {
        Method[] calls = Arrays.stream(NeverLike.class.getDeclaredMethods())
            .filter(m -> Modifier.isPublic(m.getModifiers()))
            .sorted(Comparator.comparing(Method::getName)).toArray(Method[]::new);
        Check.due("calls", calls.length, 32);
        for (int run = 0; run < RUNS && !Check.hasWrong(); run++) {
            run(calls, new Random(run));
        }
        Check.end("FuzzTest");
    }

    private static void run(Method[] calls, Random random) {
        NeverLike x = new NeverLike();
        StringBuilder told = new StringBuilder();
        for (int i = 0; i < 511; i++) {
            Method call = calls[random.nextInt(calls.length)];
            Object[] numbers = new Object[call.getParameterCount()];
            for (int k = 0; k < numbers.length; k++) {
                numbers[k] = number(random);
            }
            if (call.getName().equals("build") && random.nextInt(4) > 0) {
                numbers[0] = 1 + random.nextInt(3);
            }
            if (call.getName().equals("feed") && random.nextBoolean()) {
                numbers[0] = (int) LETTERS.charAt(random.nextInt(LETTERS.length()));
            }
            told.append(call.getName()).append(Arrays.toString(numbers)).append('\n');
            try {
                call.invoke(x, numbers);
                Check.due("a call", true);
            } catch (ReflectiveOperationException thrown) {
                System.out.println(told);
                Check.due("no throw, but " + thrown.getCause(), false);
                return;
            }
        }
    }

    private static int number(Random random) {
        int roll = random.nextInt(10);
        return roll < 6 ? random.nextInt(6) : roll < 9 ? EDGES[random.nextInt(EDGES.length)] : random.nextInt();
    }
}
