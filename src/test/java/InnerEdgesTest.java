import java.lang.reflect.Constructor;
import java.lang.reflect.Field;
import java.lang.reflect.Method;
import java.util.ArrayList;
import java.util.Arrays;
import java.util.Collections;
import java.util.List;
import java.util.Random;

/**
 * Two edges of CODES that no call can reach: a length above 17 needs weights of 6765 together, and six
 * tables need 2400 symbols, but a block has 2250 bytes at most. So they are looked at from inside; a
 * class that is made otherwise inside is left alone.
 */
public final class InnerEdgesTest {
    /** Each is the sum of the two before, so each symbol is in one sum more than the next one. */
    private static final int[] SUMS = {
        1, 1, 2, 3, 5, 8, 13, 21, 34, 55, 89, 144, 233, 377, 610, 987, 1597, 2584, 4181, 6765, 10946, 17711, 28657,
    };

    public static void main(String[] args) throws ReflectiveOperationException {
        Class<?> coder = inside("RotationPress$Coder");
        if (coder == null) {
            System.out.println("made otherwise inside: nothing to look at");
            return;
        }
        numberOfTables(coder);
        lengthsAboveSeventeen(coder);
        Due.finish();
    }

    private static Class<?> inside(String name) {
        try {
            return Class.forName(name);
        } catch (ClassNotFoundException e) {
            return null;
        }
    }

    /** "2 for less than 200 symbols, 3 for less than 600, 4 for less than 1200, 5 for less than 2400, else 6". */
    private static void numberOfTables(Class<?> coder) throws ReflectiveOperationException {
        Method tables = coder.getDeclaredMethod("tablesFor", int.class);
        tables.setAccessible(true);
        int[][] edges = {
            {2, 2}, {199, 2}, {200, 3}, {599, 3}, {600, 4}, {1199, 4}, {1200, 5}, {2399, 5}, {2400, 6}, {9999, 6},
        };
        for (int[] edge : edges) {
            Due.same(edge[0] + " symbols", (int) tables.invoke(null, edge[0]), edge[1]);
        }
    }

    /** "If one is above 17, all symbols' weights are halved, rounded down, and 1 more, and it begins again." */
    private static void lengthsAboveSeventeen(Class<?> coder) throws ReflectiveOperationException {
        int[] seventeen = Arrays.copyOf(SUMS, 18);
        int[] eighteen = Arrays.copyOf(SUMS, 19);
        Due.same("17 is taken", greatest(lengths(coder, seventeen)), 17);
        Due.same("18 is not", greatest(lengths(coder, eighteen)) < 18 ? 1 : 0, 1);
        int[] halved = Arrays.stream(eighteen).map(weight -> weight / 2 + 1).toArray();
        Due.same("18 is made of halved weights", lengths(coder, eighteen), lengths(coder, halved));
        for (int n = 16; n <= SUMS.length; n++) {
            compare(coder, Arrays.copyOf(SUMS, n));
        }
        for (int seed = 0; seed < 300; seed++) {
            compare(coder, farApart(new Random(seed)));
        }
    }

    private static void compare(Class<?> coder, int[] weights) throws ReflectiveOperationException {
        Due.same("lengths of " + Arrays.toString(weights), lengths(coder, weights), Reference.lengths(weights));
    }

    /** Weights that grow nearly as the sums do, among small ones, in any order. */
    private static int[] farApart(Random random) {
        int n = 18 + random.nextInt(40);
        double growth = 1.6 + random.nextDouble() / 2;
        List<Integer> weights = new ArrayList<>();
        double weight = 1;
        for (int i = 0; i < n; i++) {
            int noise = (int) (weight * (0.7 + 0.6 * random.nextDouble()));
            weights.add(noise >= 1 && noise < 50000 ? noise : 1 + random.nextInt(9));
            weight *= growth;
        }
        Collections.shuffle(weights, random);
        return Reference.row(weights);
    }

    private static int greatest(int[] row) {
        return Arrays.stream(row).max().getAsInt();
    }

    private static int[] lengths(Class<?> coder, int[] weights) throws ReflectiveOperationException {
        Constructor<?> maker = coder.getDeclaredConstructor();
        maker.setAccessible(true);
        Object made = maker.newInstance();
        Field field = coder.getDeclaredField("weights");
        field.setAccessible(true);
        System.arraycopy(weights, 0, field.get(made), 0, weights.length);
        // its own row is just long enough for the weights that a block can have
        Field slots = coder.getDeclaredField("slots");
        slots.setAccessible(true);
        slots.set(made, new int[60000]);
        Method makeLengths = coder.getDeclaredMethod("makeLengths", int[].class, int.class);
        makeLengths.setAccessible(true);
        int[] lengths = new int[weights.length];
        makeLengths.invoke(made, lengths, weights.length);
        return lengths;
    }
}
