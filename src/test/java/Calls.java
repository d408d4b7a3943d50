import java.lang.reflect.InvocationTargetException;
import java.lang.reflect.Method;

/** Calls of a SorryWalk by name, and all that can be seen of one. */
final class Calls {
    private Calls() {
    }

    static Method named(String name) {
        for (Method method : SorryWalk.class.getMethods()) {
            if (method.getDeclaringClass() == SorryWalk.class && method.getName().equals(name)) {
                return method;
            }
        }
        throw new IllegalArgumentException("no call " + name);
    }

    /** A boolean parameter is true for another number than 0. */
    static Object call(SorryWalk x, String name, int... numbers) {
        Method method = named(name);
        Class<?>[] types = method.getParameterTypes();
        Object[] with = new Object[types.length];
        for (int i = 0; i < types.length; i++) {
            with[i] = types[i] == boolean.class ? (Object) (numbers[i] != 0)
                : types[i] == long.class ? (Object) (long) numbers[i] : (Object) numbers[i];
        }
        try {
            return method.invoke(x, with);
        } catch (IllegalAccessException | InvocationTargetException e) {
            throw new IllegalStateException(name + " threw", e);
        }
    }

    /** NONE of a number, false of a boolean. */
    static boolean isRefusal(Object answer) {
        return answer instanceof Boolean yes ? !yes : ((Number) answer).longValue() == SorryWalk.NONE;
    }

    /**
     * All that a SorryWalk tells, the tape, TALES and MARKS too; what it was is used up by this.
     * So two of the same past can be compared, behind a call that only one of them had.
     */
    static String allOf(SorryWalk x) {
        StringBuilder b = new StringBuilder();
        b.append("fraction ").append(x.top()).append(' ').append(x.bottom());
        b.append(" fault ").append(x.fault(0)).append(' ').append(x.fault(1));
        addLand(b, x);
        for (int tray = 0; tray < 4; tray++) {
            b.append("\ntray");
            for (int place = 0; place < 7; place++) {
                b.append(' ').append(x.read(tray, place)).append('/').append(x.status());
            }
        }
        b.append("\nlived");
        for (int what = 0; what < 5; what++) {
            b.append(' ').append(x.lived(what)).append('/').append(x.status());
        }
        b.append("\ntape ").append(x.feed(0, 0, 0, 0, 0));
        b.append("\nmean ").append(x.mean(1, 3)).append(' ').append(x.top()).append(' ').append(x.bottom());
        b.append("\nlive ").append(x.live(1)).append('/').append(x.status());
        addLand(b, x);
        for (int k = 0; k < 4; k++) {
            b.append("\nundo ").append(x.undo()).append('/').append(x.status());
            addLand(b, x);
        }
        return b.toString();
    }

    private static void addLand(StringBuilder b, SorryWalk x) {
        b.append("\nland");
        for (int what = 0; what < 10; what++) {
            b.append(' ').append(x.told(what));
        }
        for (int h = 0; h < x.told(0); h++) {
            b.append(" labour ").append(x.labour(h)).append(" doors");
            for (int g = 0; g < x.told(0); g++) {
                b.append(' ').append(x.door(h, g));
            }
        }
        for (int p = 0; p < x.told(1); p++) {
            b.append("\nperson");
            for (int what = 0; what < 7; what++) {
                b.append(' ').append(x.person(p, what));
            }
            for (int q = 0; q < x.told(1); q++) {
                b.append(' ').append(x.owed(p, q));
            }
            for (int k = 0; k < 3; k++) {
                b.append(' ').append(x.heir(p, k));
            }
        }
    }
}
