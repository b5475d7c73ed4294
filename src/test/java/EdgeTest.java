import java.lang.reflect.Method;
import java.lang.reflect.Modifier;
import java.util.Random;

/** No call throws, whatever its arguments are and whatever stands. */
public final class EdgeTest {
    private static final int[] EDGES = {Integer.MIN_VALUE, -1, 0, 1, 2, 3, 4, 7, 24, 41, 99, 100, Integer.MAX_VALUE};

    private static void callAll(LinkTree x, Method m) throws ReflectiveOperationException {
        int params = m.getParameterCount();
        int ways = (int) Math.pow(EDGES.length, params);
        for (int way = 0; way < ways; way++) {
            Object[] args = new Object[params];
            int rest = way;
            for (int i = 0; i < params; i++) {
                args[i] = EDGES[rest % EDGES.length];
                rest /= EDGES.length;
            }
            m.invoke(x, args);
        }
    }

    private static LinkTree stirred(int seed) {
        Random dice = new Random(seed);
        LinkTree x = new LinkTree();
        x.room(2 + dice.nextInt(3));
        for (int i = 0; i < 150 * seed; i++) {
            int c = dice.nextInt(3);
            x.begin(c, dice.nextInt(3) == 0 ? 2 : 1, dice.nextInt(100));
            x.go(c, dice.nextInt(8));
        }
        return x;
    }

    public static void main(String[] args) throws ReflectiveOperationException {
        int states = 5;
        for (int seed = 0; seed < states; seed++) {
            for (Method m : LinkTree.class.getDeclaredMethods()) {
                if (Modifier.isPublic(m.getModifiers())) {
                    callAll(stirred(seed), m);
                }
            }
        }
        System.out.println("EdgeTest: no call threw in " + states + " states");
    }
}
