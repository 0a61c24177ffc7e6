import java.lang.reflect.InvocationTargetException;
import java.lang.reflect.Method;
import java.lang.reflect.Modifier;
import java.util.ArrayList;
import java.util.Arrays;
import java.util.List;
import java.util.Map;

/** Every call with many mixes of odd numbers, in several states: none throws, and a refusal changes nothing. */
public final class HostileTest {
    private static final int[] ODD = {
        Integer.MIN_VALUE, Integer.MIN_VALUE + 1, -36, -2, -1, 0, 1, 3, 5, 10, 36, 60, 61, Integer.MAX_VALUE
    };
    private static final int STATES = 5;
    private static final int MOST_MIXES = 2744;
    private static final Due due = new Due("HostileTest");
    private static final Numbers numbers = new Numbers(5);
    /** What is seen of each state before any odd call. */
    private static final List<Map<String, List<Long>>> looks = new ArrayList<>();

    public static void main(String[] args) throws IllegalAccessException {
        for (int state = 0; state < STATES; state++) {
            looks.add(Scene.look(inState(state)));
            looks.get(state).remove(Scene.FINDING);
            for (Method method : BoneSteps.class.getDeclaredMethods()) {
                if (Modifier.isPublic(method.getModifiers())) {
                    askAll(method, state);
                }
            }
        }
        due.end();
    }

    /** Some 260 calls at most, so that there is room for a look within 512. */
    private static BoneSteps inState(int state) {
        BoneSteps x = new BoneSteps();
        for (int b = 0; b < (state == 0 ? 0 : state == 1 ? 1 : 10); b++) {
            x.bone(b % 5 - 1, 1 + b, 7 * b % 36, 35 - b);
        }
        for (int n = 0; n < (state < 2 ? 0 : state == 2 ? 5 : 180); n++) {
            if (n % 3 == 0) {
                x.turn(n % 10, n % 36);
            }
            x.frame(n % 6);
        }
        if (state == 4) {
            x.lock(9);
            x.pack(3, 2);
            x.walk(0, 0, 0, 4);
        }
        for (int s = 0; s < state; s++) {
            x.sheet(s, s % 3, s == 0 ? 0 : 61 - s);
        }
        return x;
    }

    private static void askAll(Method method, int state) throws IllegalAccessException {
        Class<?>[] types = method.getParameterTypes();
        int mixes = 1;
        for (int k = 0; k < types.length; k++) {
            mixes *= ODD.length;
        }
        int asked = Math.min(mixes, MOST_MIXES);
        for (int n = 0; n < asked; n++) {
            int mix = mixes == asked ? n : numbers.below(mixes);
            Object[] values = new Object[types.length];
            for (int k = 0; k < types.length; k++) {
                int odd = ODD[mix % ODD.length];
                values[k] = types[k] == int.class ? (Object) odd : (Object) asLong(odd);
                mix /= ODD.length;
            }
            ask(method, values, state);
        }
    }

    private static long asLong(int odd) {
        return odd == Integer.MIN_VALUE ? Long.MIN_VALUE : odd == Integer.MAX_VALUE ? Long.MAX_VALUE : odd * 1000000007L;
    }

    private static void ask(Method method, Object[] values, int state) throws IllegalAccessException {
        BoneSteps x = inState(state);
        String call = "state " + state + ": " + method.getName() + Arrays.toString(values);
        try {
            long answer = ((Number) method.invoke(x, values)).longValue();
            if (isRefusal(method, answer)) {
                Map<String, List<Long>> seen = Scene.look(x);
                long finding = seen.remove(Scene.FINDING).get(0);
                boolean found = answer <= -11 && answer >= -15;
                boolean tells = !method.getName().equals("get");
                due.is(call + ", count(6)", finding, found ? -10 - answer : tells ? 0 : finding);
                due.isTrue(call + " was refused and changes nothing", seen.equals(looks.get(state)));
            }
        } catch (InvocationTargetException e) {
            due.isTrue(call + " throws nothing, but there was " + e.getCause(), false);
        }
    }

    private static boolean isRefusal(Method method, long answer) {
        switch (method.getName()) {
            case "digest": return false;
            case "get": return answer == Integer.MIN_VALUE;
            default: return answer <= (method.getReturnType() == long.class ? Long.MIN_VALUE + 4 : -2);
        }
    }
}
