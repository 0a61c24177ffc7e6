import java.lang.reflect.InvocationTargetException;
import java.lang.reflect.Method;
import java.lang.reflect.Modifier;

/** Every call with every mix of odd numbers, in several states: none throws, and a refusal changes nothing. */
public final class HostileTest {
    private static final int[] ODD = {
        Integer.MIN_VALUE, Integer.MIN_VALUE + 1, -36, -2, -1, 0, 1, 3, 5, 10, 36, 60, 61, Integer.MAX_VALUE
    };
    private static final Due due = new Due("HostileTest");
    private static final Numbers numbers = new Numbers(5);

    public static void main(String[] args) throws IllegalAccessException {
        for (int state = 0; state < 5; state++) {
            for (Method method : BoneSteps.class.getDeclaredMethods()) {
                if (Modifier.isPublic(method.getModifiers())) {
                    askAll(method, state);
                }
            }
        }
        due.end();
    }

    private static BoneSteps inState(int state) {
        BoneSteps x = new BoneSteps();
        for (int b = 0; b < (state == 0 ? 0 : state == 1 ? 1 : 10); b++) {
            x.bone(b % 5 - 1, 1 + b, 7 * b % 36, 35 - b);
        }
        for (int n = 0; n < (state < 2 ? 0 : state == 2 ? 5 : 180); n++) {
            x.turn(n % 10, n % 36);
            x.frame(n % 6);
        }
        if (state == 4) {
            x.lock(9);
        }
        for (int s = 0; s < state; s++) {
            x.sheet(s, s % 3, s == 0 ? 0 : 61 - s);
        }
        return x;
    }

    private static void askAll(Method method, int state) throws IllegalAccessException {
        Class<?>[] types = method.getParameterTypes();
        long mixes = 1;
        for (int k = 0; k < types.length; k++) {
            mixes *= ODD.length;
        }
        BoneSteps x = inState(state);
        long asked = Math.min(mixes, 3000);
        for (long n = 0; n < asked; n++) {
            long mix = mixes == asked ? n : numbers.below((int) mixes);
            Object[] values = new Object[types.length];
            for (int k = 0; k < types.length; k++) {
                int odd = ODD[(int) (mix % ODD.length)];
                values[k] = types[k] == int.class ? (Object) odd : (Object) asLong(odd);
                mix /= ODD.length;
            }
            ask(x, method, values, state);
        }
    }

    private static long asLong(int odd) {
        return odd == Integer.MIN_VALUE ? Long.MIN_VALUE : odd == Integer.MAX_VALUE ? Long.MAX_VALUE : odd * 1000000007L;
    }

    private static void ask(BoneSteps x, Method method, Object[] values, int state) throws IllegalAccessException {
        String call = "state " + state + ": " + method.getName() + java.util.Arrays.toString(values);
        long before = view(x);
        int finding = x.count(6);
        try {
            long answer = ((Number) method.invoke(x, values)).longValue();
            if (isRefusal(method, answer)) {
                due.is(call + " was refused and left", view(x), before);
                boolean found = answer <= -11 && answer >= -15;
                boolean tells = !method.getName().equals("get");
                due.is(call + ", count(6)", x.count(6), found ? -10 - answer : tells ? finding : x.count(6));
            }
        } catch (InvocationTargetException e) {
            due.is(call + " threw " + e.getCause(), 1, 0);
        }
    }

    private static boolean isRefusal(Method method, long answer) {
        switch (method.getName()) {
            case "digest": return false;
            case "get": return answer == Integer.MIN_VALUE;
            default: return answer <= (method.getReturnType() == long.class ? Long.MIN_VALUE + 4 : -2);
        }
    }

    /** All that can be seen without a FINDING, in one number. */
    private static long view(BoneSteps x) {
        long h = x.digest();
        for (int what = 0; what < 6; what++) {
            h = 31 * h + x.count(what);
        }
        for (int b = 0; b < x.count(0); b++) {
            for (int what = 0; what < 5; what++) {
                h = 31 * h + x.about(b, what);
            }
        }
        h = 31 * h + x.end(-1, 0);
        h = 31 * h + x.end(-1, 1);
        for (int k = 0; k < 30; k++) {
            h = 31 * h + x.key(k);
            h = 31 * h + x.step(k);
        }
        return h;
    }
}
