import java.lang.reflect.InvocationTargetException;
import java.lang.reflect.Method;
import java.lang.reflect.Modifier;
import java.util.Arrays;

/** Every call with every number at, beside and far out of its bounds, of nobody, of a town, of a full one. */
public final class NeverThrowsTest extends Asking {
    private static final int[] NUMBERS = {MIN, MIN + 1, -2, -1, 0, 1, 2, 3, 4, 5, 6, 7, 8, 9, 10, 20, 21, 39, 40, 41, 60,
        61, 99, 100, 127, 128, 160, 161, 65536, MAX - 1, MAX};
    private static final String[] TOWNS = {"", "house1 2 0;gaol0 0;stranger2 1 1;wall0 1;wall1 2;wall2 3;plan1 2 0 0;",
        TermsBoundaries.FIVE + TermsBoundaries.NINE + TermsBoundaries.SIX};
    /** With what it takes to tell a town, fewer than the 512 for which an object is good. */
    private static final int CALLS = 300;

    private final String text;
    private DoorTown town;
    private int calls = CALLS;

    private NeverThrowsTest(String text) {
        this.text = text;
    }

    public static void main(String[] args) throws IllegalAccessException {
        for (String text : TOWNS) {
            NeverThrowsTest of = new NeverThrowsTest(text);
            for (Method method : DoorTown.class.getDeclaredMethods()) {
                if (Modifier.isPublic(method.getModifiers())) {
                    of.call(method, new Object[method.getParameterCount()], 0);
                }
            }
        }
        finish();
    }

    private void call(Method method, Object[] numbers, int from) throws IllegalAccessException {
        if (from == numbers.length) {
            answers(method, numbers);
        } else if (method.getParameterTypes()[from] == boolean.class) {
            for (int i = 0; i < 2; i++) {
                numbers[from] = i == 0;
                call(method, numbers, from + 1);
            }
        } else {
            // of four numbers each third is enough, in turn, so that all of them come
            int step = numbers.length > 3 ? 3 : 1;
            for (int i = asked % step; i < NUMBERS.length; i += step) {
                numbers[from] = NUMBERS[i];
                call(method, numbers, from + 1);
            }
        }
    }

    private void answers(Method method, Object[] numbers) throws IllegalAccessException {
        if (calls >= CALLS) {
            town = new DoorTown();
            tell(town, text);
            town.sheet(0, 0, 40);
            town.sheet(1, 1, 5);
            town.keep(1);
            calls = 0;
        }
        calls++;
        asked++;
        try {
            method.invoke(town, numbers);
        } catch (InvocationTargetException e) {
            wrong++;
            System.out.println(method.getName() + Arrays.toString(numbers) + " threw " + e.getCause());
        }
    }
}
