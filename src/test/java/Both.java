import java.lang.reflect.InvocationHandler;
import java.lang.reflect.InvocationTargetException;
import java.lang.reflect.Method;
import java.lang.reflect.Proxy;
import java.util.Arrays;

/** A store and the model behind one face: each call is made of both, and must be answered alike. */
final class Both implements InvocationHandler {
    /* The document promises nothing of later calls, so a test that needs more tests nothing. */
    private static final int MOST_CALLS = 512;

    private final Face store = new Store();
    private final Face model = new Model();
    private int calls;

    private Both() {
    }

    static Face fresh() {
        return (Face) Proxy.newProxyInstance(
            Both.class.getClassLoader(), new Class<?>[] {Face.class}, new Both());
    }

    static int callsOf(Face face) {
        return ((Both) Proxy.getInvocationHandler(face)).calls;
    }

    public Object invoke(Object proxy, Method method, Object[] arguments) {
        calls++;
        if (calls > MOST_CALLS) {
            throw new AssertionError("a test makes more than 512 calls of one object");
        }
        Object want = answer(model, method, arguments);
        Object got = answer(store, method, arguments);
        String call = method.getName() + (arguments == null ? "[]" : Arrays.toString(arguments));
        Due.same("call " + calls + ", " + call, text(got), text(want));
        if (got instanceof RuntimeException e) {
            throw e;
        }
        return got;
    }

    private static Object answer(Face face, Method method, Object[] arguments) {
        try {
            return method.invoke(face, arguments);
        } catch (InvocationTargetException e) {
            if (e.getCause() instanceof RuntimeException thrown) {
                return thrown;
            }
            throw new AssertionError(e.getCause());
        } catch (IllegalAccessException e) {
            throw new AssertionError(e);
        }
    }

    private static String text(Object answer) {
        return answer instanceof RuntimeException
            ? "throws." + answer.getClass().getSimpleName() : String.valueOf(answer);
    }
}
