import java.lang.reflect.InvocationTargetException;
import java.lang.reflect.Method;
import java.lang.reflect.Modifier;
import java.util.ArrayList;
import java.util.Comparator;
import java.util.List;
import java.util.Random;

/**
 * Calls of all methods with any numbers: an exception is of a class that the face names (never of one below
 * it, as the machine throws), and what throws or is refused changes nothing that save() saves.
 */
public final class AnyCallTest {
    private static final int RUNS = 700;
    private static final int CALLS = 200;
    /** A call takes less calls than that with the giving of a text ahead of it, and a snapshot of seven tasks too. */
    private static final int CALL = 7;
    private static final int SNAPSHOT = 140;
    private static final int THROWN = Integer.MIN_VALUE;
    private static final int[] NUMBERS = {Integer.MIN_VALUE, -8, -2, -1, 0, 1, 2, 3, 4, 5, 6, 7, 8, 9, 10, 22, 23, 24, 25, 31, 32, 59,
        60, 61, 64, 900, 901, Integer.MAX_VALUE};
    private static final String[] TEXTS = {"", "a", "b", "abc", "zzzzzz", "toolong", "refresh;", "join 1;mode 2;", "arrow a b;",
        "task a 1", "task b 3;task c 4;task d 5;task e 6;join 1;arrow c b;arrow b c;arrow e b",
        "swap 0;swap 1;hours b 4;cut c b;", "task a"};

    private AnyCallTest() {
    }

    public static void main(String[] args) {
        List<Method> methods = new ArrayList<>();
        for (Method method : RingFreeOrder.class.getDeclaredMethods()) {
            if (Modifier.isPublic(method.getModifiers())) {
                methods.add(method);
            }
        }
        // the machine lists them in any order; the runs are to be the same each time
        methods.sort(Comparator.comparing(Method::getName));
        for (int seed = 0; seed < RUNS; seed++) {
            run(methods, new Random(seed));
        }
        Check.end("AnyCallTest");
    }

    private static void run(List<Method> methods, Random random) {
        Player player = new Player();
        for (int k = 0; k < CALLS && player.hasRoom(CALL); k++) {
            if (random.nextInt(3) == 0) {
                player.give(TEXTS[random.nextInt(TEXTS.length)]);
            }
            Method method = methods.get(random.nextInt(methods.size()));
            int tasks = player.look(1).size(0);
            // an object is asked for all sorts of tasks and arrows, so most of its calls must not throw
            Object[] numbers = new Object[method.getParameterCount()];
            for (int j = 0; j < numbers.length; j++) {
                numbers[j] = random.nextInt(4) == 0 ? NUMBERS[random.nextInt(NUMBERS.length)] : random.nextInt(Math.max(2, tasks));
            }
            call(player, method, numbers);
        }
    }

    private static void call(Player player, Method method, Object[] numbers) {
        String before = Check.snapshot(player.look(SNAPSHOT));
        int changes = player.look(1).size(8);
        int answer = player.answer(x -> answerOf(x, method, numbers));
        boolean refused = answer < 0 && List.of("make", "add", "swap").contains(method.getName());
        if (answer == THROWN || refused) {
            Check.same("nothing changes by " + method.getName(), Check.snapshot(player.look(SNAPSHOT)), before);
            Check.same("no change by " + method.getName(), player.look(1).size(8), changes);
        }
        Check.same("gap", player.look(1).gap(), 0);
    }

    /** What the call answers if that is an int, 0 if it is none. */
    private static int answerOf(RingFreeOrder x, Method method, Object[] numbers) {
        try {
            return method.invoke(x, numbers) instanceof Integer got ? got : 0;
        } catch (InvocationTargetException e) {
            boolean named = false;
            for (Class<?> due : method.getExceptionTypes()) {
                named |= e.getCause().getClass() == due;
            }
            Check.same(method.getName() + " threw " + e.getCause(), named ? 1 : 0, 1);
            return THROWN;
        } catch (IllegalAccessException e) {
            throw new AssertionError(method + " cannot be called", e);
        }
    }
}
