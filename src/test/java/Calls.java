import java.lang.reflect.InvocationTargetException;
import java.lang.reflect.Method;
import java.util.ArrayList;
import java.util.HashMap;
import java.util.List;
import java.util.Map;
import java.util.regex.Matcher;
import java.util.regex.Pattern;

/** Calls told as texts, "put(0, 1, -1)" or "merge(0, 1, 2, '+')", and made on a Keywright or on its model. */
final class Calls {
    private static final Pattern ARGUMENT = Pattern.compile("'(.)'|\\(char\\) (\\d+)|true|false|-?\\d+");
    private static final Map<Class<?>, Map<String, Method>> METHODS = new HashMap<>();

    private Calls() {
    }

    /** What a call answers; an exception is told as throws. and its name. */
    static Object answer(Object object, String call) {
        int open = call.indexOf('(');
        try {
            return method(object, call.substring(0, open)).invoke(object, arguments(call.substring(open + 1)));
        } catch (InvocationTargetException thrown) {
            return "throws." + thrown.getCause().getClass().getSimpleName();
        } catch (IllegalAccessException thrown) {
            throw new IllegalStateException(call, thrown);
        }
    }

    static String told(String name, List<?> arguments) {
        List<String> texts = new ArrayList<>();
        for (Object argument : arguments) {
            boolean isSign = argument instanceof Character;
            texts.add(isSign ? "(char) " + (int) (Character) argument : String.valueOf(argument));
        }
        return name + "(" + String.join(", ", texts) + ")";
    }

    private static Method method(Object object, String name) {
        Map<String, Method> methods = METHODS.computeIfAbsent(object.getClass(), Calls::publicMethods);
        Method method = methods.get(name);
        if (method == null) {
            throw new IllegalStateException("no method " + name);
        }
        return method;
    }

    private static Map<String, Method> publicMethods(Class<?> type) {
        Map<String, Method> methods = new HashMap<>();
        for (Method method : type.getMethods()) {
            methods.put(method.getName(), method);
        }
        return methods;
    }

    private static Object[] arguments(String text) {
        List<Object> arguments = new ArrayList<>();
        Matcher matcher = ARGUMENT.matcher(text);
        while (matcher.find()) {
            arguments.add(argument(matcher));
        }
        return arguments.toArray();
    }

    private static Object argument(Matcher matcher) {
        String text = matcher.group();
        if (matcher.group(1) != null) {
            return matcher.group(1).charAt(0);
        }
        if (matcher.group(2) != null) {
            return (char) Integer.parseInt(matcher.group(2));
        }
        boolean isTruth = text.equals("true") || text.equals("false");
        return isTruth ? (Object) Boolean.valueOf(text) : (Object) Integer.valueOf(text);
    }
}
